noncomputable def cX13_findIn_3 (n : Nat) (S : rvS) : Nat → Nat → Int32 → Int64 → Int32 → Option Int32
  | 0, _, _, _, _ => none
  | k + 1, a0, x1, x2, x4 =>
    if x1 ≤ x4 then (
      some (-1 : Int32))
    else (
      (rv_aL S a0 x4).bind fun x2_ =>
      if (lg_cmp x2_ x2) = 0 then (
        some x4)
      else (
        rv_lt (x4 + (1)) fun x5_ =>
        cX13_findIn_3 n S k a0 x1 x2 x5_))
set_option maxRecDepth 20000 in
set_option maxHeartbeats 4000000 in
theorem eX13_findIn_3 (n : Nat) (S : rvS) : ∀ (k : Nat) (a0 : Nat) (x1 : Int32) (x2 : Int64) (x4 : Int32) (r : Int32), cX13_findIn_3 n S k a0 x1 x2 x4 = some r → rv_Ev mX13_findIn 0 3 [(0, .ref a0), (1, .int x1), (2, .long x2), (4, .int x4)] [] S (some (.int r)) S := by
  intro k
  induction k with
  | zero => intro a0 x1 x2 x4 r h; exact absurd h (by simp [cX13_findIn_3])
  | succ k ih =>
    intro a0 x1 x2 x4 r h
    unfold cX13_findIn_3 at h
    refine re_iload (pc := 3) 3 (by decide +kernel : decode cX13_findIn 3 = .ok (.iload 4, 2)) rfl ?_
    refine re_iloadn (pc := 5) 1 (by decide +kernel : decode cX13_findIn 5 = .ok (.iload_n 1, 1)) rfl ?_
    rcases rv_if_e h with ⟨g1_, h⟩ | ⟨g1_, h⟩
    · refine re_icmp_ge_t (pc := 6) 27 (by decide +kernel : decode cX13_findIn 6 = .ok (.if_icmp .ge 21, 3)) (by decide) g1_ ?_
      refine re_iconst (pc := 27) (-1 : Int32) (by decide +kernel : decode cX13_findIn 27 = .ok (.iconst (-1), 1)) (by decide) ?_
      cases h
      exact re_iret (fun ty hty => by cases hty; rfl) (by decide +kernel : decode cX13_findIn 28 = .ok (.ireturn, 1))
    · refine re_icmp_ge_f (pc := 6) 27 (by decide +kernel : decode cX13_findIn 6 = .ok (.if_icmp .ge 21, 3)) (by decide) g1_ ?_
      refine re_aloadn (pc := 9) 0 (by decide +kernel : decode cX13_findIn 9 = .ok (.aload_n 0, 1)) rfl ?_
      refine re_iload (pc := 10) 3 (by decide +kernel : decode cX13_findIn 10 = .ok (.iload 4, 2)) rfl ?_
      obtain ⟨x2_, g3_, h⟩ := rv_b_e h
      refine re_aL (pc := 12) g3_ (by decide +kernel : decode cX13_findIn 12 = .ok (.laload, 1)) ?_
      refine re_lloadn (pc := 13) 2 (by decide +kernel : decode cX13_findIn 13 = .ok (.lload_n 2, 1)) rfl ?_
      refine re_lcmp (pc := 14) (by decide +kernel : decode cX13_findIn 14 = .ok (.lcmp, 1)) ?_
      rcases rv_if_e h with ⟨g4_, h⟩ | ⟨g4_, h⟩
      · refine re_if_ne_f (pc := 15) 21 (by decide +kernel : decode cX13_findIn 15 = .ok (.ifCond .ne 6, 3)) (by decide) g4_ ?_
        refine re_iload (pc := 18) 3 (by decide +kernel : decode cX13_findIn 18 = .ok (.iload 4, 2)) rfl ?_
        cases h
        exact re_iret (fun ty hty => by cases hty; rfl) (by decide +kernel : decode cX13_findIn 20 = .ok (.ireturn, 1))
      · refine re_if_ne_t (pc := 15) 21 (by decide +kernel : decode cX13_findIn 15 = .ok (.ifCond .ne 6, 3)) (by decide) g4_ ?_
        obtain ⟨x5_, g6_, h⟩ := rv_lt_e h
        refine re_iinc (pc := 21) 3 x5_ (lv1 := [(4, .int x5_), (0, .ref a0), (1, .int x1), (2, .long x2)]) (by decide +kernel : decode cX13_findIn 21 = .ok (.iinc 4 1, 3)) rfl g6_ (by decide) rfl ?_
        refine re_goto (pc := 24) 3 (by decide +kernel : decode cX13_findIn 24 = .ok (.goto (-21), 3)) (by decide) ?_
        refine re_sub [1, 2, 3, 0] (lv1 := [(0, .ref a0), (1, .int x1), (2, .long x2), (4, .int x5_)]) rfl ?_
        exact ih a0 x1 x2 x5_ _ h
noncomputable def fnX13_findIn (n : Nat) (S : rvS) (a0 : Nat) (x1 : Int32) (x2 : Int64) : Option Int32 :=
  cX13_findIn_3 n S n a0 x1 x2 (0 : Int32)
set_option maxRecDepth 20000 in
set_option maxHeartbeats 4000000 in
theorem eX13_findIn_in (n : Nat) (S : rvS) (a0 : Nat) (x1 : Int32) (x2 : Int64) (r : Int32) (h : fnX13_findIn n S a0 x1 x2 = some r) : rv_Ev mX13_findIn 0 0 [(0, .ref a0), (1, .int x1), (2, .long x2)] [] S (some (.int r)) S := by
  unfold fnX13_findIn at h
  refine re_iconst (pc := 0) (0 : Int32) (by decide +kernel : decode cX13_findIn 0 = .ok (.iconst 0, 1)) (by decide) ?_
  refine re_istore (pc := 1) (lv1 := [(4, .int (0 : Int32)), (0, .ref a0), (1, .int x1), (2, .long x2)]) (by decide +kernel : decode cX13_findIn 1 = .ok (.istore 4, 2)) (by decide) rfl ?_
  refine re_sub [1, 2, 3, 0] (lv1 := [(0, .ref a0), (1, .int x1), (2, .long x2), (4, .int (0 : Int32))]) rfl ?_
  exact eX13_findIn_3 n S n a0 x1 x2 (0 : Int32) _ h
theorem metX13_findIn (n : Nat) (S : rvS) (a0 : Nat) (x1 : Int32) (x2 : Int64) (r : Int32) (h : fnX13_findIn n S a0 x1 x2 = some r) : rv_Met yX13_findIn mX13_findIn 0 [.ref a0, .int x1, .long x2] S (some (.int r)) S := rv_Met.of ⟨by decide +kernel, rfl, (fun z => by first | rfl | cases z), rfl⟩ (Nat.le_of_ble_eq_true rfl) rfl (eX13_findIn_in n S a0 x1 x2 r h)
noncomputable def fnX13_readOnce (n : Nat) (S : rvS) (a0 : Nat) (x1 : Int32) : Option (Int32 × rvS) :=
  (rv_gI S 11 a0 23).bind fun x1_ =>
  (fnX13_has n S x1_ x1).bind fun x4_ =>
  if x4_ = 0 then (
    (rv_gI S 11 a0 23).bind fun x7_ =>
    (rv_pI S 11 a0 23 (x7_ ||| ((1 : Int32) <<< (x1 &&& 31)))).bind fun S9_ =>
    (rv_ck S9_ 11 a0).bind fun u11_ =>
    (fnX13_go n S9_ a0).bind fun S14_ =>
    some ((1 : Int32), S14_))
  else (
    (rv_ck S 11 a0).bind fun u17_ =>
    rv_bp (fnX13_bad n S a0 (3 : Int32)) fun x20_ S21_ =>
    (rv_bo x20_).bind fun b_ =>
    some (b_, S21_))
set_option maxRecDepth 20000 in
set_option maxHeartbeats 4000000 in
theorem eX13_readOnce_in (n : Nat) (S : rvS) (a0 : Nat) (x1 : Int32) (r : Int32) (S' : rvS) (h : fnX13_readOnce n S a0 x1 = some (r, S')) : rv_Ev mX13_readOnce 2 0 [(0, .ref a0), (1, .int x1)] [] S (some (.int r)) S' := by
  unfold fnX13_readOnce at h
  refine re_aloadn (pc := 0) 0 (by decide +kernel : decode cX13_readOnce 0 = .ok (.aload_n 0, 1)) rfl ?_
  obtain ⟨x1_, g2_, h⟩ := rv_b_e h
  refine re_gI (pc := 1) g2_ lfX13_202 rfl (by decide +kernel : decode cX13_readOnce 1 = .ok (.getfield 202, 3)) ?_
  refine re_iloadn (pc := 4) 1 (by decide +kernel : decode cX13_readOnce 4 = .ok (.iload_n 1, 1)) rfl ?_
  obtain ⟨x4_, g5_, h⟩ := rv_b_e h
  have m3_ := metX13_has n S x1_ x1 _ g5_
  refine re_cS (pc := 5) [.int x1_, .int x1] m3_ (rv_okl.k ⟨rfl, rfl⟩) (rv_up.rf _ _) (by decide) (Nat.le_of_ble_eq_true rfl) lSX13_205 rfl (by decide +kernel : decode cX13_readOnce 5 = .ok (.invokestatic 205, 3)) ?_
  rcases rv_if_e h with ⟨g6_, h⟩ | ⟨g6_, h⟩
  · refine re_if_eq_t (pc := 8) 17 (by decide +kernel : decode cX13_readOnce 8 = .ok (.ifCond .eq 9, 3)) (by decide) g6_ ?_
    refine re_aloadn (pc := 17) 0 (by decide +kernel : decode cX13_readOnce 17 = .ok (.aload_n 0, 1)) rfl ?_
    refine re_dup (pc := 18) (by decide +kernel : decode cX13_readOnce 18 = .ok (.dup, 1)) rfl ?_
    obtain ⟨x7_, g8_, h⟩ := rv_b_e h
    refine re_gI (pc := 19) g8_ lfX13_202 rfl (by decide +kernel : decode cX13_readOnce 19 = .ok (.getfield 202, 3)) ?_
    refine re_iconst (pc := 22) (1 : Int32) (by decide +kernel : decode cX13_readOnce 22 = .ok (.iconst 1, 1)) (by decide) ?_
    refine re_iloadn (pc := 23) 1 (by decide +kernel : decode cX13_readOnce 23 = .ok (.iload_n 1, 1)) rfl ?_
    refine re_ishl (pc := 24) (by decide +kernel : decode cX13_readOnce 24 = .ok (.ishl, 1)) ?_
    refine re_ior (pc := 25) (by decide +kernel : decode cX13_readOnce 25 = .ok (.ior, 1)) ?_
    obtain ⟨S9_, g10_, h⟩ := rv_b_e h
    refine re_pI (pc := 26) g10_ lfX13_202 rfl rfl rfl rfl (by decide +kernel : decode cX13_readOnce 26 = .ok (.putfield 202, 3)) ?_
    refine re_aloadn (pc := 29) 0 (by decide +kernel : decode cX13_readOnce 29 = .ok (.aload_n 0, 1)) rfl ?_
    obtain ⟨u11_, g12_, h⟩ := rv_b_e h
    obtain ⟨S14_, g15_, h⟩ := rv_b_e h
    have m13_ := metX13_go n S9_ a0 _ g15_
    have z16_ : rv_same S9_ S14_ := m13_.sh rfl
    refine re_cV (pc := 30) [] m13_ (rv_okl.k z16_) (rv_up.sh z16_) (by decide) (rv_ck_e g12_) ⟨by decide, rfl⟩ (Nat.le_of_ble_eq_true rfl) lVX13_181 rfl (by decide +kernel : decode cX13_readOnce 30 = .ok (.invokevirtual 181, 3)) ?_
    refine re_iconst (pc := 33) (1 : Int32) (by decide +kernel : decode cX13_readOnce 33 = .ok (.iconst 1, 1)) (by decide) ?_
    cases h
    exact re_iret (fun ty hty => by cases hty; rfl) (by decide +kernel : decode cX13_readOnce 34 = .ok (.ireturn, 1))
  · refine re_if_eq_f (pc := 8) 17 (by decide +kernel : decode cX13_readOnce 8 = .ok (.ifCond .eq 9, 3)) (by decide) g6_ ?_
    refine re_aloadn (pc := 11) 0 (by decide +kernel : decode cX13_readOnce 11 = .ok (.aload_n 0, 1)) rfl ?_
    refine re_iconst (pc := 12) (3 : Int32) (by decide +kernel : decode cX13_readOnce 12 = .ok (.iconst 3, 1)) (by decide) ?_
    obtain ⟨u17_, g18_, h⟩ := rv_b_e h
    obtain ⟨x20_, S21_, g22_, h⟩ := rv_bp_e h
    have m19_ := metX13_bad n S a0 (3 : Int32) _ _ g22_
    have z23_ : rv_same S S21_ := m19_.sh rfl
    refine re_cV (pc := 13) [.int (3 : Int32)] m19_ (rv_okl.k z23_) (rv_up.sh z23_) (by decide) (rv_ck_e g18_) ⟨by decide, rfl⟩ (Nat.le_of_ble_eq_true rfl) lVX13_167 rfl (by decide +kernel : decode cX13_readOnce 13 = .ok (.invokevirtual 167, 3)) ?_
    obtain ⟨b_, gb_, h⟩ := rv_b_e h
    obtain ⟨gb1_, gb2_⟩ := rv_bo_e gb_
    refine re_nI (pc := 16) gb1_ ?_
    cases h
    exact re_iret (fun ty hty => by cases hty; exact gb2_) (by decide +kernel : decode cX13_readOnce 16 = .ok (.ireturn, 1))
theorem metX13_readOnce (n : Nat) (S : rvS) (a0 : Nat) (x1 : Int32) (r : Int32) (S' : rvS) (h : fnX13_readOnce n S a0 x1 = some (r, S')) : rv_Met yX13_readOnce mX13_readOnce 2 [.ref a0, .int x1] S (some (.int r)) S' := rv_Met.of ⟨by decide +kernel, rfl, (fun z => by first | rfl | cases z), rfl⟩ (Nat.le_of_ble_eq_true rfl) rfl (eX13_readOnce_in n S a0 x1 r S' h)
noncomputable def fnX13_isToldWho (n : Nat) (S : rvS) (a0 : Nat) : Option (Int32 × rvS) :=
  (rv_ck S 11 a0).bind fun u1_ =>
  (fnX13_isName n S a0).bind fun x4_ =>
  if x4_ = 0 then (
    (rv_ck S 11 a0).bind fun u31_ =>
    rv_bp (fnX13_bad n S a0 (1 : Int32)) fun x34_ S35_ =>
    (rv_bo x34_).bind fun b_ =>
    some (b_, S35_))
  else (
    (rv_gR S 11 a0 19).bind fun a7_ =>
    (rv_gR S 11 a0 15).bind fun a9_ =>
    (rv_aI S 0 a9_ (0 : Int32)).bind fun x11_ =>
    (rv_gL S 11 a0 12).bind fun x13_ =>
    (fnX13_findIn n S a7_ x11_ x13_).bind fun x16_ =>
    (rv_pI S 11 a0 13 x16_).bind fun S18_ =>
    (rv_gI S18_ 11 a0 13).bind fun x20_ =>
    if x20_ = (-1 : Int32) then (
      (rv_ck S18_ 11 a0).bind fun u23_ =>
      rv_bp (fnX13_bad n S18_ a0 (3 : Int32)) fun x26_ S27_ =>
      if x26_ = 0 then (
        some ((0 : Int32), S27_))
      else (
        some ((1 : Int32), S27_)))
    else (
      some ((1 : Int32), S18_)))
set_option maxRecDepth 20000 in
set_option maxHeartbeats 4000000 in
theorem eX13_isToldWho_in (n : Nat) (S : rvS) (a0 : Nat) (r : Int32) (S' : rvS) (h : fnX13_isToldWho n S a0 = some (r, S')) : rv_Ev mX13_isToldWho 3 0 [(0, .ref a0)] [] S (some (.int r)) S' := by
  unfold fnX13_isToldWho at h
  refine re_aloadn (pc := 0) 0 (by decide +kernel : decode cX13_isToldWho 0 = .ok (.aload_n 0, 1)) rfl ?_
  obtain ⟨u1_, g2_, h⟩ := rv_b_e h
  obtain ⟨x4_, g5_, h⟩ := rv_b_e h
  have m3_ := metX13_isName n S a0 _ g5_
  refine re_cV (pc := 1) [] m3_ (rv_okl.k ⟨rfl, rfl⟩) (rv_up.rf _ _) (by decide) (rv_ck_e g2_) ⟨by decide, rfl⟩ (Nat.le_of_ble_eq_true rfl) lVX13_208 rfl (by decide +kernel : decode cX13_isToldWho 1 = .ok (.invokevirtual 208, 3)) ?_
  rcases rv_if_e h with ⟨g6_, h⟩ | ⟨g6_, h⟩
  · refine re_if_ne_f (pc := 4) 13 (by decide +kernel : decode cX13_isToldWho 4 = .ok (.ifCond .ne 9, 3)) (by decide) g6_ ?_
    refine re_aloadn (pc := 7) 0 (by decide +kernel : decode cX13_isToldWho 7 = .ok (.aload_n 0, 1)) rfl ?_
    refine re_iconst (pc := 8) (1 : Int32) (by decide +kernel : decode cX13_isToldWho 8 = .ok (.iconst 1, 1)) (by decide) ?_
    obtain ⟨u31_, g32_, h⟩ := rv_b_e h
    obtain ⟨x34_, S35_, g36_, h⟩ := rv_bp_e h
    have m33_ := metX13_bad n S a0 (1 : Int32) _ _ g36_
    have z37_ : rv_same S S35_ := m33_.sh rfl
    refine re_cV (pc := 9) [.int (1 : Int32)] m33_ (rv_okl.k z37_) (rv_up.sh z37_) (by decide) (rv_ck_e g32_) ⟨by decide, rfl⟩ (Nat.le_of_ble_eq_true rfl) lVX13_167 rfl (by decide +kernel : decode cX13_isToldWho 9 = .ok (.invokevirtual 167, 3)) ?_
    obtain ⟨b_, gb_, h⟩ := rv_b_e h
    obtain ⟨gb1_, gb2_⟩ := rv_bo_e gb_
    refine re_nI (pc := 12) gb1_ ?_
    cases h
    exact re_iret (fun ty hty => by cases hty; exact gb2_) (by decide +kernel : decode cX13_isToldWho 12 = .ok (.ireturn, 1))
  · refine re_if_ne_t (pc := 4) 13 (by decide +kernel : decode cX13_isToldWho 4 = .ok (.ifCond .ne 9, 3)) (by decide) g6_ ?_
    refine re_aloadn (pc := 13) 0 (by decide +kernel : decode cX13_isToldWho 13 = .ok (.aload_n 0, 1)) rfl ?_
    refine re_aloadn (pc := 14) 0 (by decide +kernel : decode cX13_isToldWho 14 = .ok (.aload_n 0, 1)) rfl ?_
    obtain ⟨a7_, g8_, h⟩ := rv_b_e h
    refine re_gR (pc := 15) g8_ lfX13_29 rfl (by decide +kernel : decode cX13_isToldWho 15 = .ok (.getfield 29, 3)) ?_
    refine re_aloadn (pc := 18) 0 (by decide +kernel : decode cX13_isToldWho 18 = .ok (.aload_n 0, 1)) rfl ?_
    obtain ⟨a9_, g10_, h⟩ := rv_b_e h
    refine re_gR (pc := 19) g10_ lfX13_16 rfl (by decide +kernel : decode cX13_isToldWho 19 = .ok (.getfield 16, 3)) ?_
    refine re_iconst (pc := 22) (0 : Int32) (by decide +kernel : decode cX13_isToldWho 22 = .ok (.iconst 0, 1)) (by decide) ?_
    obtain ⟨x11_, g12_, h⟩ := rv_b_e h
    refine re_aI (pc := 23) g12_ (by decide +kernel : decode cX13_isToldWho 23 = .ok (.iaload, 1)) ?_
    refine re_aloadn (pc := 24) 0 (by decide +kernel : decode cX13_isToldWho 24 = .ok (.aload_n 0, 1)) rfl ?_
    obtain ⟨x13_, g14_, h⟩ := rv_b_e h
    refine re_gL (pc := 25) g14_ lfX13_134 rfl (by decide +kernel : decode cX13_isToldWho 25 = .ok (.getfield 134, 3)) ?_
    obtain ⟨x16_, g17_, h⟩ := rv_b_e h
    have m15_ := metX13_findIn n S a7_ x11_ x13_ _ g17_
    refine re_cS (pc := 28) [.ref a7_, .int x11_, .long x13_] m15_ (rv_okl.k ⟨rfl, rfl⟩) (rv_up.rf _ _) (by decide) (Nat.le_of_ble_eq_true rfl) lSX13_212 rfl (by decide +kernel : decode cX13_isToldWho 28 = .ok (.invokestatic 212, 3)) ?_
    obtain ⟨S18_, g19_, h⟩ := rv_b_e h
    refine re_pI (pc := 31) g19_ lfX13_174 rfl rfl rfl rfl (by decide +kernel : decode cX13_isToldWho 31 = .ok (.putfield 174, 3)) ?_
    refine re_aloadn (pc := 34) 0 (by decide +kernel : decode cX13_isToldWho 34 = .ok (.aload_n 0, 1)) rfl ?_
    obtain ⟨x20_, g21_, h⟩ := rv_b_e h
    refine re_gI (pc := 35) g21_ lfX13_174 rfl (by decide +kernel : decode cX13_isToldWho 35 = .ok (.getfield 174, 3)) ?_
    refine re_iconst (pc := 38) (-1 : Int32) (by decide +kernel : decode cX13_isToldWho 38 = .ok (.iconst (-1), 1)) (by decide) ?_
    rcases rv_if_e h with ⟨g22_, h⟩ | ⟨g22_, h⟩
    · refine re_icmp_ne_f (pc := 39) 50 (by decide +kernel : decode cX13_isToldWho 39 = .ok (.if_icmp .ne 11, 3)) (by decide) g22_ ?_
      refine re_aloadn (pc := 42) 0 (by decide +kernel : decode cX13_isToldWho 42 = .ok (.aload_n 0, 1)) rfl ?_
      refine re_iconst (pc := 43) (3 : Int32) (by decide +kernel : decode cX13_isToldWho 43 = .ok (.iconst 3, 1)) (by decide) ?_
      obtain ⟨u23_, g24_, h⟩ := rv_b_e h
      obtain ⟨x26_, S27_, g28_, h⟩ := rv_bp_e h
      have m25_ := metX13_bad n S18_ a0 (3 : Int32) _ _ g28_
      have z29_ : rv_same S18_ S27_ := m25_.sh rfl
      refine re_cV (pc := 44) [.int (3 : Int32)] m25_ (rv_okl.k z29_) (rv_up.sh z29_) (by decide) (rv_ck_e g24_) ⟨by decide, rfl⟩ (Nat.le_of_ble_eq_true rfl) lVX13_167 rfl (by decide +kernel : decode cX13_isToldWho 44 = .ok (.invokevirtual 167, 3)) ?_
      rcases rv_if_e h with ⟨g30_, h⟩ | ⟨g30_, h⟩
      · refine re_if_eq_t (pc := 47) 54 (by decide +kernel : decode cX13_isToldWho 47 = .ok (.ifCond .eq 7, 3)) (by decide) g30_ ?_
        refine re_iconst (pc := 54) (0 : Int32) (by decide +kernel : decode cX13_isToldWho 54 = .ok (.iconst 0, 1)) (by decide) ?_
        cases h
        exact re_iret (fun ty hty => by cases hty; rfl) (by decide +kernel : decode cX13_isToldWho 55 = .ok (.ireturn, 1))
      · refine re_if_eq_f (pc := 47) 54 (by decide +kernel : decode cX13_isToldWho 47 = .ok (.ifCond .eq 7, 3)) (by decide) g30_ ?_
        refine re_iconst (pc := 50) (1 : Int32) (by decide +kernel : decode cX13_isToldWho 50 = .ok (.iconst 1, 1)) (by decide) ?_
        refine re_goto (pc := 51) 55 (by decide +kernel : decode cX13_isToldWho 51 = .ok (.goto 4, 3)) (by decide) ?_
        cases h
        exact re_iret (fun ty hty => by cases hty; rfl) (by decide +kernel : decode cX13_isToldWho 55 = .ok (.ireturn, 1))
    · refine re_icmp_ne_t (pc := 39) 50 (by decide +kernel : decode cX13_isToldWho 39 = .ok (.if_icmp .ne 11, 3)) (by decide) g22_ ?_
      refine re_iconst (pc := 50) (1 : Int32) (by decide +kernel : decode cX13_isToldWho 50 = .ok (.iconst 1, 1)) (by decide) ?_
      refine re_goto (pc := 51) 55 (by decide +kernel : decode cX13_isToldWho 51 = .ok (.goto 4, 3)) (by decide) ?_
      cases h
      exact re_iret (fun ty hty => by cases hty; rfl) (by decide +kernel : decode cX13_isToldWho 55 = .ok (.ireturn, 1))
theorem metX13_isToldWho (n : Nat) (S : rvS) (a0 : Nat) (r : Int32) (S' : rvS) (h : fnX13_isToldWho n S a0 = some (r, S')) : rv_Met yX13_isToldWho mX13_isToldWho 3 [.ref a0] S (some (.int r)) S' := rv_Met.of ⟨by decide +kernel, rfl, (fun z => by first | rfl | cases z), rfl⟩ (Nat.le_of_ble_eq_true rfl) rfl (eX13_isToldWho_in n S a0 r S' h)
noncomputable def fnX13_readWho (n : Nat) (S : rvS) (a0 : Nat) : Option (Int32 × rvS) :=
  (rv_gR S 11 a0 15).bind fun a1_ =>
  (rv_aI S 0 a1_ (0 : Int32)).bind fun x3_ =>
  if x3_ = (16 : Int32) then (
    (rv_ck S 11 a0).bind fun u75_ =>
    rv_bp (fnX13_bad n S a0 (4 : Int32)) fun x78_ S79_ =>
    (rv_bo x78_).bind fun b_ =>
    some (b_, S79_))
  else (
    (rv_ck S 11 a0).bind fun u6_ =>
    (fnX13_go n S a0).bind fun S9_ =>
    (rv_ck S9_ 11 a0).bind fun u12_ =>
    (fnX13_isName n S9_ a0).bind fun x15_ =>
    if x15_ = 0 then (
      (rv_ck S9_ 11 a0).bind fun u68_ =>
      rv_bp (fnX13_bad n S9_ a0 (1 : Int32)) fun x71_ S72_ =>
      (rv_bo x71_).bind fun b_ =>
      some (b_, S72_))
    else (
      (rv_gR S9_ 11 a0 19).bind fun a18_ =>
      (rv_gL S9_ 11 a0 12).bind fun x20_ =>
      (fnX13_findIn n S9_ a18_ x3_ x20_).bind fun x23_ =>
      if x23_ = (-1 : Int32) then (
        (rv_gR S9_ 11 a0 19).bind fun a26_ =>
        (rv_gL S9_ 11 a0 12).bind fun x28_ =>
        (rv_uL S9_ a26_ x3_ x28_).bind fun S30_ =>
        (rv_gR S30_ 11 a0 15).bind fun a32_ =>
        (rv_aI S30_ 0 a32_ (0 : Int32)).bind fun x34_ =>
        (rv_uI S30_ a32_ (0 : Int32) (x34_ + (1 : Int32))).bind fun S36_ =>
        (rv_ck S36_ 11 a0).bind fun u38_ =>
        (fnX13_go n S36_ a0).bind fun S41_ =>
        (rv_gI S41_ 11 a0 7).bind fun x44_ =>
        if x44_ = (3 : Int32) then (
          (rv_ck S41_ 11 a0).bind fun u47_ =>
          rv_bp (fnX13_readNumber n S41_ a0 (0 : Int32) (3 : Int32)) fun x50_ S51_ =>
          if x50_ = 0 then (
            some ((0 : Int32), S51_))
          else (
            (rv_gR S51_ 11 a0 15).bind fun a55_ =>
            (rv_gI S51_ 11 a0 13).bind fun x57_ =>
            (rv_uI S51_ a55_ (((8 : Int32) + ((5 : Int32) * x3_)) + (0 : Int32)) x57_).bind fun S59_ =>
            some ((1 : Int32), S59_)))
        else (
          some ((1 : Int32), S41_)))
      else (
        (rv_ck S9_ 11 a0).bind fun u61_ =>
        rv_bp (fnX13_bad n S9_ a0 (3 : Int32)) fun x64_ S65_ =>
        (rv_bo x64_).bind fun b_ =>
        some (b_, S65_))))
set_option maxRecDepth 20000 in
set_option maxHeartbeats 4000000 in
theorem eX13_readWho_in (n : Nat) (S : rvS) (a0 : Nat) (r : Int32) (S' : rvS) (h : fnX13_readWho n S a0 = some (r, S')) : rv_Ev mX13_readWho 3 0 [(0, .ref a0)] [] S (some (.int r)) S' := by
  unfold fnX13_readWho at h
  refine re_aloadn (pc := 0) 0 (by decide +kernel : decode cX13_readWho 0 = .ok (.aload_n 0, 1)) rfl ?_
  obtain ⟨a1_, g2_, h⟩ := rv_b_e h
  refine re_gR (pc := 1) g2_ lfX13_16 rfl (by decide +kernel : decode cX13_readWho 1 = .ok (.getfield 16, 3)) ?_
  refine re_iconst (pc := 4) (0 : Int32) (by decide +kernel : decode cX13_readWho 4 = .ok (.iconst 0, 1)) (by decide) ?_
  obtain ⟨x3_, g4_, h⟩ := rv_b_e h
  refine re_aI (pc := 5) g4_ (by decide +kernel : decode cX13_readWho 5 = .ok (.iaload, 1)) ?_
  refine re_istoren (pc := 6) (lv1 := [(1, .int x3_), (0, .ref a0)]) (by decide +kernel : decode cX13_readWho 6 = .ok (.istore_n 1, 1)) rfl (by decide) rfl ?_
  refine re_iloadn (pc := 7) 0 (by decide +kernel : decode cX13_readWho 7 = .ok (.iload_n 1, 1)) rfl ?_
  refine re_bipush (pc := 8) (16 : Int32) (by decide +kernel : decode cX13_readWho 8 = .ok (.bipush 16, 2)) (by decide) ?_
  rcases rv_if_e h with ⟨g5_, h⟩ | ⟨g5_, h⟩
  · refine re_icmp_ne_f (pc := 10) 19 (by decide +kernel : decode cX13_readWho 10 = .ok (.if_icmp .ne 9, 3)) (by decide) g5_ ?_
    refine re_aloadn (pc := 13) 1 (by decide +kernel : decode cX13_readWho 13 = .ok (.aload_n 0, 1)) rfl ?_
    refine re_iconst (pc := 14) (4 : Int32) (by decide +kernel : decode cX13_readWho 14 = .ok (.iconst 4, 1)) (by decide) ?_
    obtain ⟨u75_, g76_, h⟩ := rv_b_e h
    obtain ⟨x78_, S79_, g80_, h⟩ := rv_bp_e h
    have m77_ := metX13_bad n S a0 (4 : Int32) _ _ g80_
    have z81_ : rv_same S S79_ := m77_.sh rfl
    refine re_cV (pc := 15) [.int (4 : Int32)] m77_ (rv_okl.k z81_) (rv_up.sh z81_) (by decide) (rv_ck_e g76_) ⟨by decide, rfl⟩ (Nat.le_of_ble_eq_true rfl) lVX13_167 rfl (by decide +kernel : decode cX13_readWho 15 = .ok (.invokevirtual 167, 3)) ?_
    obtain ⟨b_, gb_, h⟩ := rv_b_e h
    obtain ⟨gb1_, gb2_⟩ := rv_bo_e gb_
    refine re_nI (pc := 18) gb1_ ?_
    cases h
    exact re_iret (fun ty hty => by cases hty; exact gb2_) (by decide +kernel : decode cX13_readWho 18 = .ok (.ireturn, 1))
  · refine re_icmp_ne_t (pc := 10) 19 (by decide +kernel : decode cX13_readWho 10 = .ok (.if_icmp .ne 9, 3)) (by decide) g5_ ?_
    refine re_aloadn (pc := 19) 1 (by decide +kernel : decode cX13_readWho 19 = .ok (.aload_n 0, 1)) rfl ?_
    obtain ⟨u6_, g7_, h⟩ := rv_b_e h
    obtain ⟨S9_, g10_, h⟩ := rv_b_e h
    have m8_ := metX13_go n S a0 _ g10_
    have z11_ : rv_same S S9_ := m8_.sh rfl
    refine re_cV (pc := 20) [] m8_ (rv_okl.k z11_) (rv_up.sh z11_) (by decide) (rv_ck_e g7_) ⟨by decide, rfl⟩ (Nat.le_of_ble_eq_true rfl) lVX13_181 rfl (by decide +kernel : decode cX13_readWho 20 = .ok (.invokevirtual 181, 3)) ?_
    refine re_aloadn (pc := 23) 1 (by decide +kernel : decode cX13_readWho 23 = .ok (.aload_n 0, 1)) rfl ?_
    obtain ⟨u12_, g13_, h⟩ := rv_b_e h
    obtain ⟨x15_, g16_, h⟩ := rv_b_e h
    have m14_ := metX13_isName n S9_ a0 _ g16_
    refine re_cV (pc := 24) [] m14_ (rv_okl.k ⟨rfl, rfl⟩) (rv_up.rf _ _) (by decide) (rv_ck_e g13_) ⟨by decide, rfl⟩ (Nat.le_of_ble_eq_true rfl) lVX13_208 rfl (by decide +kernel : decode cX13_readWho 24 = .ok (.invokevirtual 208, 3)) ?_
    rcases rv_if_e h with ⟨g17_, h⟩ | ⟨g17_, h⟩
    · refine re_if_ne_f (pc := 27) 36 (by decide +kernel : decode cX13_readWho 27 = .ok (.ifCond .ne 9, 3)) (by decide) g17_ ?_
      refine re_aloadn (pc := 30) 1 (by decide +kernel : decode cX13_readWho 30 = .ok (.aload_n 0, 1)) rfl ?_
      refine re_iconst (pc := 31) (1 : Int32) (by decide +kernel : decode cX13_readWho 31 = .ok (.iconst 1, 1)) (by decide) ?_
      obtain ⟨u68_, g69_, h⟩ := rv_b_e h
      obtain ⟨x71_, S72_, g73_, h⟩ := rv_bp_e h
      have m70_ := metX13_bad n S9_ a0 (1 : Int32) _ _ g73_
      have z74_ : rv_same S9_ S72_ := m70_.sh rfl
      refine re_cV (pc := 32) [.int (1 : Int32)] m70_ (rv_okl.k z74_) (rv_up.sh z74_) (by decide) (rv_ck_e g69_) ⟨by decide, rfl⟩ (Nat.le_of_ble_eq_true rfl) lVX13_167 rfl (by decide +kernel : decode cX13_readWho 32 = .ok (.invokevirtual 167, 3)) ?_
      obtain ⟨b_, gb_, h⟩ := rv_b_e h
      obtain ⟨gb1_, gb2_⟩ := rv_bo_e gb_
      refine re_nI (pc := 35) gb1_ ?_
      cases h
      exact re_iret (fun ty hty => by cases hty; exact gb2_) (by decide +kernel : decode cX13_readWho 35 = .ok (.ireturn, 1))
    · refine re_if_ne_t (pc := 27) 36 (by decide +kernel : decode cX13_readWho 27 = .ok (.ifCond .ne 9, 3)) (by decide) g17_ ?_
      refine re_aloadn (pc := 36) 1 (by decide +kernel : decode cX13_readWho 36 = .ok (.aload_n 0, 1)) rfl ?_
      obtain ⟨a18_, g19_, h⟩ := rv_b_e h
      refine re_gR (pc := 37) g19_ lfX13_29 rfl (by decide +kernel : decode cX13_readWho 37 = .ok (.getfield 29, 3)) ?_
      refine re_iloadn (pc := 40) 0 (by decide +kernel : decode cX13_readWho 40 = .ok (.iload_n 1, 1)) rfl ?_
      refine re_aloadn (pc := 41) 1 (by decide +kernel : decode cX13_readWho 41 = .ok (.aload_n 0, 1)) rfl ?_
      obtain ⟨x20_, g21_, h⟩ := rv_b_e h
      refine re_gL (pc := 42) g21_ lfX13_134 rfl (by decide +kernel : decode cX13_readWho 42 = .ok (.getfield 134, 3)) ?_
      obtain ⟨x23_, g24_, h⟩ := rv_b_e h
      have m22_ := metX13_findIn n S9_ a18_ x3_ x20_ _ g24_
      refine re_cS (pc := 45) [.ref a18_, .int x3_, .long x20_] m22_ (rv_okl.k ⟨rfl, rfl⟩) (rv_up.rf _ _) (by decide) (Nat.le_of_ble_eq_true rfl) lSX13_212 rfl (by decide +kernel : decode cX13_readWho 45 = .ok (.invokestatic 212, 3)) ?_
      refine re_iconst (pc := 48) (-1 : Int32) (by decide +kernel : decode cX13_readWho 48 = .ok (.iconst (-1), 1)) (by decide) ?_
      rcases rv_if_e h with ⟨g25_, h⟩ | ⟨g25_, h⟩
      · refine re_icmp_eq_t (pc := 49) 58 (by decide +kernel : decode cX13_readWho 49 = .ok (.if_icmp .eq 9, 3)) (by decide) g25_ ?_
        refine re_aloadn (pc := 58) 1 (by decide +kernel : decode cX13_readWho 58 = .ok (.aload_n 0, 1)) rfl ?_
        obtain ⟨a26_, g27_, h⟩ := rv_b_e h
        refine re_gR (pc := 59) g27_ lfX13_29 rfl (by decide +kernel : decode cX13_readWho 59 = .ok (.getfield 29, 3)) ?_
        refine re_iloadn (pc := 62) 0 (by decide +kernel : decode cX13_readWho 62 = .ok (.iload_n 1, 1)) rfl ?_
        refine re_aloadn (pc := 63) 1 (by decide +kernel : decode cX13_readWho 63 = .ok (.aload_n 0, 1)) rfl ?_
        obtain ⟨x28_, g29_, h⟩ := rv_b_e h
        refine re_gL (pc := 64) g29_ lfX13_134 rfl (by decide +kernel : decode cX13_readWho 64 = .ok (.getfield 134, 3)) ?_
        obtain ⟨S30_, g31_, h⟩ := rv_b_e h
        refine re_uL (pc := 67) g31_ (by decide +kernel : decode cX13_readWho 67 = .ok (.lastore, 1)) ?_
        refine re_aloadn (pc := 68) 1 (by decide +kernel : decode cX13_readWho 68 = .ok (.aload_n 0, 1)) rfl ?_
        obtain ⟨a32_, g33_, h⟩ := rv_b_e h
        refine re_gR (pc := 69) g33_ lfX13_16 rfl (by decide +kernel : decode cX13_readWho 69 = .ok (.getfield 16, 3)) ?_
        refine re_iconst (pc := 72) (0 : Int32) (by decide +kernel : decode cX13_readWho 72 = .ok (.iconst 0, 1)) (by decide) ?_
        refine re_dup2 (pc := 73) (by decide +kernel : decode cX13_readWho 73 = .ok (.dup2, 1)) rfl rfl ?_
        obtain ⟨x34_, g35_, h⟩ := rv_b_e h
        refine re_aI (pc := 74) g35_ (by decide +kernel : decode cX13_readWho 74 = .ok (.iaload, 1)) ?_
        refine re_iconst (pc := 75) (1 : Int32) (by decide +kernel : decode cX13_readWho 75 = .ok (.iconst 1, 1)) (by decide) ?_
        refine re_iadd (pc := 76) (by decide +kernel : decode cX13_readWho 76 = .ok (.iadd, 1)) ?_
        obtain ⟨S36_, g37_, h⟩ := rv_b_e h
        refine re_uI (pc := 77) g37_ (by decide +kernel : decode cX13_readWho 77 = .ok (.iastore, 1)) ?_
        refine re_aloadn (pc := 78) 1 (by decide +kernel : decode cX13_readWho 78 = .ok (.aload_n 0, 1)) rfl ?_
        obtain ⟨u38_, g39_, h⟩ := rv_b_e h
        obtain ⟨S41_, g42_, h⟩ := rv_b_e h
        have m40_ := metX13_go n S36_ a0 _ g42_
        have z43_ : rv_same S36_ S41_ := m40_.sh rfl
        refine re_cV (pc := 79) [] m40_ (rv_okl.k z43_) (rv_up.sh z43_) (by decide) (rv_ck_e g39_) ⟨by decide, rfl⟩ (Nat.le_of_ble_eq_true rfl) lVX13_181 rfl (by decide +kernel : decode cX13_readWho 79 = .ok (.invokevirtual 181, 3)) ?_
        refine re_aloadn (pc := 82) 1 (by decide +kernel : decode cX13_readWho 82 = .ok (.aload_n 0, 1)) rfl ?_
        obtain ⟨x44_, g45_, h⟩ := rv_b_e h
        refine re_gI (pc := 83) g45_ lfX13_121 rfl (by decide +kernel : decode cX13_readWho 83 = .ok (.getfield 121, 3)) ?_
        refine re_iconst (pc := 86) (3 : Int32) (by decide +kernel : decode cX13_readWho 86 = .ok (.iconst 3, 1)) (by decide) ?_
        rcases rv_if_e h with ⟨g46_, h⟩ | ⟨g46_, h⟩
        · refine re_icmp_eq_t (pc := 87) 92 (by decide +kernel : decode cX13_readWho 87 = .ok (.if_icmp .eq 5, 3)) (by decide) g46_ ?_
          refine re_aloadn (pc := 92) 1 (by decide +kernel : decode cX13_readWho 92 = .ok (.aload_n 0, 1)) rfl ?_
          refine re_iconst (pc := 93) (0 : Int32) (by decide +kernel : decode cX13_readWho 93 = .ok (.iconst 0, 1)) (by decide) ?_
          refine re_iconst (pc := 94) (3 : Int32) (by decide +kernel : decode cX13_readWho 94 = .ok (.iconst 3, 1)) (by decide) ?_
          obtain ⟨u47_, g48_, h⟩ := rv_b_e h
          obtain ⟨x50_, S51_, g52_, h⟩ := rv_bp_e h
          have m49_ := metX13_readNumber n S41_ a0 (0 : Int32) (3 : Int32) _ _ g52_
          have z53_ : rv_same S41_ S51_ := m49_.sh rfl
          refine re_cV (pc := 95) [.int (0 : Int32), .int (3 : Int32)] m49_ (rv_okl.k z53_) (rv_up.sh z53_) (by decide) (rv_ck_e g48_) ⟨by decide, rfl⟩ (Nat.le_of_ble_eq_true rfl) lVX13_216 rfl (by decide +kernel : decode cX13_readWho 95 = .ok (.invokevirtual 216, 3)) ?_
          rcases rv_if_e h with ⟨g54_, h⟩ | ⟨g54_, h⟩
          · refine re_if_ne_f (pc := 98) 103 (by decide +kernel : decode cX13_readWho 98 = .ok (.ifCond .ne 5, 3)) (by decide) g54_ ?_
            refine re_iconst (pc := 101) (0 : Int32) (by decide +kernel : decode cX13_readWho 101 = .ok (.iconst 0, 1)) (by decide) ?_
            cases h
            exact re_iret (fun ty hty => by cases hty; rfl) (by decide +kernel : decode cX13_readWho 102 = .ok (.ireturn, 1))
          · refine re_if_ne_t (pc := 98) 103 (by decide +kernel : decode cX13_readWho 98 = .ok (.ifCond .ne 5, 3)) (by decide) g54_ ?_
            refine re_aloadn (pc := 103) 1 (by decide +kernel : decode cX13_readWho 103 = .ok (.aload_n 0, 1)) rfl ?_
            obtain ⟨a55_, g56_, h⟩ := rv_b_e h
            refine re_gR (pc := 104) g56_ lfX13_16 rfl (by decide +kernel : decode cX13_readWho 104 = .ok (.getfield 16, 3)) ?_
            refine re_bipush (pc := 107) (8 : Int32) (by decide +kernel : decode cX13_readWho 107 = .ok (.bipush 8, 2)) (by decide) ?_
            refine re_iconst (pc := 109) (5 : Int32) (by decide +kernel : decode cX13_readWho 109 = .ok (.iconst 5, 1)) (by decide) ?_
            refine re_iloadn (pc := 110) 0 (by decide +kernel : decode cX13_readWho 110 = .ok (.iload_n 1, 1)) rfl ?_
            refine re_imul (pc := 111) (by decide +kernel : decode cX13_readWho 111 = .ok (.imul, 1)) ?_
            refine re_iadd (pc := 112) (by decide +kernel : decode cX13_readWho 112 = .ok (.iadd, 1)) ?_
            refine re_iconst (pc := 113) (0 : Int32) (by decide +kernel : decode cX13_readWho 113 = .ok (.iconst 0, 1)) (by decide) ?_
            refine re_iadd (pc := 114) (by decide +kernel : decode cX13_readWho 114 = .ok (.iadd, 1)) ?_
            refine re_aloadn (pc := 115) 1 (by decide +kernel : decode cX13_readWho 115 = .ok (.aload_n 0, 1)) rfl ?_
            obtain ⟨x57_, g58_, h⟩ := rv_b_e h
            refine re_gI (pc := 116) g58_ lfX13_174 rfl (by decide +kernel : decode cX13_readWho 116 = .ok (.getfield 174, 3)) ?_
            obtain ⟨S59_, g60_, h⟩ := rv_b_e h
            refine re_uI (pc := 119) g60_ (by decide +kernel : decode cX13_readWho 119 = .ok (.iastore, 1)) ?_
            refine re_iconst (pc := 120) (1 : Int32) (by decide +kernel : decode cX13_readWho 120 = .ok (.iconst 1, 1)) (by decide) ?_
            cases h
            exact re_iret (fun ty hty => by cases hty; rfl) (by decide +kernel : decode cX13_readWho 121 = .ok (.ireturn, 1))
        · refine re_icmp_eq_f (pc := 87) 92 (by decide +kernel : decode cX13_readWho 87 = .ok (.if_icmp .eq 5, 3)) (by decide) g46_ ?_
          refine re_iconst (pc := 90) (1 : Int32) (by decide +kernel : decode cX13_readWho 90 = .ok (.iconst 1, 1)) (by decide) ?_
          cases h
          exact re_iret (fun ty hty => by cases hty; rfl) (by decide +kernel : decode cX13_readWho 91 = .ok (.ireturn, 1))
      · refine re_icmp_eq_f (pc := 49) 58 (by decide +kernel : decode cX13_readWho 49 = .ok (.if_icmp .eq 9, 3)) (by decide) g25_ ?_
        refine re_aloadn (pc := 52) 1 (by decide +kernel : decode cX13_readWho 52 = .ok (.aload_n 0, 1)) rfl ?_
        refine re_iconst (pc := 53) (3 : Int32) (by decide +kernel : decode cX13_readWho 53 = .ok (.iconst 3, 1)) (by decide) ?_
        obtain ⟨u61_, g62_, h⟩ := rv_b_e h
        obtain ⟨x64_, S65_, g66_, h⟩ := rv_bp_e h
        have m63_ := metX13_bad n S9_ a0 (3 : Int32) _ _ g66_
        have z67_ : rv_same S9_ S65_ := m63_.sh rfl
        refine re_cV (pc := 54) [.int (3 : Int32)] m63_ (rv_okl.k z67_) (rv_up.sh z67_) (by decide) (rv_ck_e g62_) ⟨by decide, rfl⟩ (Nat.le_of_ble_eq_true rfl) lVX13_167 rfl (by decide +kernel : decode cX13_readWho 54 = .ok (.invokevirtual 167, 3)) ?_
        obtain ⟨b_, gb_, h⟩ := rv_b_e h
        obtain ⟨gb1_, gb2_⟩ := rv_bo_e gb_
        refine re_nI (pc := 57) gb1_ ?_
        cases h
        exact re_iret (fun ty hty => by cases hty; exact gb2_) (by decide +kernel : decode cX13_readWho 57 = .ok (.ireturn, 1))
theorem metX13_readWho (n : Nat) (S : rvS) (a0 : Nat) (r : Int32) (S' : rvS) (h : fnX13_readWho n S a0 = some (r, S')) : rv_Met yX13_readWho mX13_readWho 3 [.ref a0] S (some (.int r)) S' := rv_Met.of ⟨by decide +kernel, rfl, (fun z => by first | rfl | cases z), rfl⟩ (Nat.le_of_ble_eq_true rfl) rfl (eX13_readWho_in n S a0 r S' h)
noncomputable def fnX13_readRoad (n : Nat) (S : rvS) (a0 : Nat) : Option (Int32 × rvS) :=
  (rv_ck S 11 a0).bind fun u1_ =>
  (fnX13_go n S a0).bind fun S4_ =>
  (rv_ck S4_ 11 a0).bind fun u7_ =>
  rv_bp (fnX13_readNumber n S4_ a0 (0 : Int32) (3 : Int32)) fun x10_ S11_ =>
  if x10_ = 0 then (
    some ((0 : Int32), S11_))
  else (
    (rv_gI S11_ 11 a0 13).bind fun x15_ =>
    (rv_ck S11_ 11 a0).bind fun u17_ =>
    rv_bp (fnX13_isNumber n S11_ a0 (0 : Int32) (3 : Int32)) fun x20_ S21_ =>
    if x20_ = 0 then (
      some ((0 : Int32), S21_))
    else (
      (rv_gR S21_ 11 a0 15).bind fun a25_ =>
      (rv_aI S21_ 0 a25_ ((128 : Int32) + x15_)).bind fun x27_ =>
      (rv_gI S21_ 11 a0 13).bind fun x29_ =>
      (fnX13_has n S21_ x27_ x29_).bind fun x32_ =>
      if x32_ = 0 then (
        (rv_gR S21_ 11 a0 15).bind fun a35_ =>
        rv_lt ((128 : Int32) + x15_) fun x37_ =>
        (rv_aI S21_ 0 a35_ x37_).bind fun x39_ =>
        (rv_gI S21_ 11 a0 13).bind fun x41_ =>
        (rv_uI S21_ a35_ x37_ (x39_ ||| ((1 : Int32) <<< (x41_ &&& 31)))).bind fun S43_ =>
        (rv_gR S43_ 11 a0 15).bind fun a45_ =>
        (rv_gI S43_ 11 a0 13).bind fun x47_ =>
        rv_lt ((128 : Int32) + x47_) fun x49_ =>
        (rv_aI S43_ 0 a45_ x49_).bind fun x51_ =>
        (rv_uI S43_ a45_ x49_ (x51_ ||| ((1 : Int32) <<< (x15_ &&& 31)))).bind fun S53_ =>
        (rv_ck S53_ 11 a0).bind fun u55_ =>
        (fnX13_go n S53_ a0).bind fun S58_ =>
        some ((1 : Int32), S58_))
      else (
        (rv_ck S21_ 11 a0).bind fun u61_ =>
        rv_bp (fnX13_bad n S21_ a0 (3 : Int32)) fun x64_ S65_ =>
        (rv_bo x64_).bind fun b_ =>
        some (b_, S65_))))
set_option maxRecDepth 20000 in
set_option maxHeartbeats 4000000 in
theorem eX13_readRoad_in (n : Nat) (S : rvS) (a0 : Nat) (r : Int32) (S' : rvS) (h : fnX13_readRoad n S a0 = some (r, S')) : rv_Ev mX13_readRoad 3 0 [(0, .ref a0)] [] S (some (.int r)) S' := by
  unfold fnX13_readRoad at h
  refine re_aloadn (pc := 0) 0 (by decide +kernel : decode cX13_readRoad 0 = .ok (.aload_n 0, 1)) rfl ?_
  obtain ⟨u1_, g2_, h⟩ := rv_b_e h
  obtain ⟨S4_, g5_, h⟩ := rv_b_e h
  have m3_ := metX13_go n S a0 _ g5_
  have z6_ : rv_same S S4_ := m3_.sh rfl
  refine re_cV (pc := 1) [] m3_ (rv_okl.k z6_) (rv_up.sh z6_) (by decide) (rv_ck_e g2_) ⟨by decide, rfl⟩ (Nat.le_of_ble_eq_true rfl) lVX13_181 rfl (by decide +kernel : decode cX13_readRoad 1 = .ok (.invokevirtual 181, 3)) ?_
  refine re_aloadn (pc := 4) 0 (by decide +kernel : decode cX13_readRoad 4 = .ok (.aload_n 0, 1)) rfl ?_
  refine re_iconst (pc := 5) (0 : Int32) (by decide +kernel : decode cX13_readRoad 5 = .ok (.iconst 0, 1)) (by decide) ?_
  refine re_iconst (pc := 6) (3 : Int32) (by decide +kernel : decode cX13_readRoad 6 = .ok (.iconst 3, 1)) (by decide) ?_
  obtain ⟨u7_, g8_, h⟩ := rv_b_e h
  obtain ⟨x10_, S11_, g12_, h⟩ := rv_bp_e h
  have m9_ := metX13_readNumber n S4_ a0 (0 : Int32) (3 : Int32) _ _ g12_
  have z13_ : rv_same S4_ S11_ := m9_.sh rfl
  refine re_cV (pc := 7) [.int (0 : Int32), .int (3 : Int32)] m9_ (rv_okl.k z13_) (rv_up.sh z13_) (by decide) (rv_ck_e g8_) ⟨by decide, rfl⟩ (Nat.le_of_ble_eq_true rfl) lVX13_216 rfl (by decide +kernel : decode cX13_readRoad 7 = .ok (.invokevirtual 216, 3)) ?_
  rcases rv_if_e h with ⟨g14_, h⟩ | ⟨g14_, h⟩
  · refine re_if_ne_f (pc := 10) 15 (by decide +kernel : decode cX13_readRoad 10 = .ok (.ifCond .ne 5, 3)) (by decide) g14_ ?_
    refine re_iconst (pc := 13) (0 : Int32) (by decide +kernel : decode cX13_readRoad 13 = .ok (.iconst 0, 1)) (by decide) ?_
    cases h
    exact re_iret (fun ty hty => by cases hty; rfl) (by decide +kernel : decode cX13_readRoad 14 = .ok (.ireturn, 1))
  · refine re_if_ne_t (pc := 10) 15 (by decide +kernel : decode cX13_readRoad 10 = .ok (.ifCond .ne 5, 3)) (by decide) g14_ ?_
    refine re_aloadn (pc := 15) 0 (by decide +kernel : decode cX13_readRoad 15 = .ok (.aload_n 0, 1)) rfl ?_
    obtain ⟨x15_, g16_, h⟩ := rv_b_e h
    refine re_gI (pc := 16) g16_ lfX13_174 rfl (by decide +kernel : decode cX13_readRoad 16 = .ok (.getfield 174, 3)) ?_
    refine re_istoren (pc := 19) (lv1 := [(1, .int x15_), (0, .ref a0)]) (by decide +kernel : decode cX13_readRoad 19 = .ok (.istore_n 1, 1)) rfl (by decide) rfl ?_
    refine re_aloadn (pc := 20) 1 (by decide +kernel : decode cX13_readRoad 20 = .ok (.aload_n 0, 1)) rfl ?_
    refine re_iconst (pc := 21) (0 : Int32) (by decide +kernel : decode cX13_readRoad 21 = .ok (.iconst 0, 1)) (by decide) ?_
    refine re_iconst (pc := 22) (3 : Int32) (by decide +kernel : decode cX13_readRoad 22 = .ok (.iconst 3, 1)) (by decide) ?_
    obtain ⟨u17_, g18_, h⟩ := rv_b_e h
    obtain ⟨x20_, S21_, g22_, h⟩ := rv_bp_e h
    have m19_ := metX13_isNumber n S11_ a0 (0 : Int32) (3 : Int32) _ _ g22_
    have z23_ : rv_same S11_ S21_ := m19_.sh rfl
    refine re_cV (pc := 23) [.int (0 : Int32), .int (3 : Int32)] m19_ (rv_okl.k z23_) (rv_up.sh z23_) (by decide) (rv_ck_e g18_) ⟨by decide, rfl⟩ (Nat.le_of_ble_eq_true rfl) lVX13_177 rfl (by decide +kernel : decode cX13_readRoad 23 = .ok (.invokevirtual 177, 3)) ?_
    rcases rv_if_e h with ⟨g24_, h⟩ | ⟨g24_, h⟩
    · refine re_if_ne_f (pc := 26) 31 (by decide +kernel : decode cX13_readRoad 26 = .ok (.ifCond .ne 5, 3)) (by decide) g24_ ?_
      refine re_iconst (pc := 29) (0 : Int32) (by decide +kernel : decode cX13_readRoad 29 = .ok (.iconst 0, 1)) (by decide) ?_
      cases h
      exact re_iret (fun ty hty => by cases hty; rfl) (by decide +kernel : decode cX13_readRoad 30 = .ok (.ireturn, 1))
    · refine re_if_ne_t (pc := 26) 31 (by decide +kernel : decode cX13_readRoad 26 = .ok (.ifCond .ne 5, 3)) (by decide) g24_ ?_
      refine re_aloadn (pc := 31) 1 (by decide +kernel : decode cX13_readRoad 31 = .ok (.aload_n 0, 1)) rfl ?_
      obtain ⟨a25_, g26_, h⟩ := rv_b_e h
      refine re_gR (pc := 32) g26_ lfX13_16 rfl (by decide +kernel : decode cX13_readRoad 32 = .ok (.getfield 16, 3)) ?_
      refine re_sipush (pc := 35) (128 : Int32) (by decide +kernel : decode cX13_readRoad 35 = .ok (.sipush 128, 3)) (by decide) ?_
      refine re_iloadn (pc := 38) 0 (by decide +kernel : decode cX13_readRoad 38 = .ok (.iload_n 1, 1)) rfl ?_
      refine re_iadd (pc := 39) (by decide +kernel : decode cX13_readRoad 39 = .ok (.iadd, 1)) ?_
      obtain ⟨x27_, g28_, h⟩ := rv_b_e h
      refine re_aI (pc := 40) g28_ (by decide +kernel : decode cX13_readRoad 40 = .ok (.iaload, 1)) ?_
      refine re_aloadn (pc := 41) 1 (by decide +kernel : decode cX13_readRoad 41 = .ok (.aload_n 0, 1)) rfl ?_
      obtain ⟨x29_, g30_, h⟩ := rv_b_e h
      refine re_gI (pc := 42) g30_ lfX13_174 rfl (by decide +kernel : decode cX13_readRoad 42 = .ok (.getfield 174, 3)) ?_
      obtain ⟨x32_, g33_, h⟩ := rv_b_e h
      have m31_ := metX13_has n S21_ x27_ x29_ _ g33_
      refine re_cS (pc := 45) [.int x27_, .int x29_] m31_ (rv_okl.k ⟨rfl, rfl⟩) (rv_up.rf _ _) (by decide) (Nat.le_of_ble_eq_true rfl) lSX13_205 rfl (by decide +kernel : decode cX13_readRoad 45 = .ok (.invokestatic 205, 3)) ?_
      rcases rv_if_e h with ⟨g34_, h⟩ | ⟨g34_, h⟩
      · refine re_if_eq_t (pc := 48) 57 (by decide +kernel : decode cX13_readRoad 48 = .ok (.ifCond .eq 9, 3)) (by decide) g34_ ?_
        refine re_aloadn (pc := 57) 1 (by decide +kernel : decode cX13_readRoad 57 = .ok (.aload_n 0, 1)) rfl ?_
        obtain ⟨a35_, g36_, h⟩ := rv_b_e h
        refine re_gR (pc := 58) g36_ lfX13_16 rfl (by decide +kernel : decode cX13_readRoad 58 = .ok (.getfield 16, 3)) ?_
        refine re_sipush (pc := 61) (128 : Int32) (by decide +kernel : decode cX13_readRoad 61 = .ok (.sipush 128, 3)) (by decide) ?_
        refine re_iloadn (pc := 64) 0 (by decide +kernel : decode cX13_readRoad 64 = .ok (.iload_n 1, 1)) rfl ?_
        refine re_iadd (pc := 65) (by decide +kernel : decode cX13_readRoad 65 = .ok (.iadd, 1)) ?_
        obtain ⟨x37_, g38_, h⟩ := rv_lt_e h
        refine re_nI (pc := 66) g38_ ?_
        refine re_dup2 (pc := 66) (by decide +kernel : decode cX13_readRoad 66 = .ok (.dup2, 1)) rfl rfl ?_
        obtain ⟨x39_, g40_, h⟩ := rv_b_e h
        refine re_aI (pc := 67) g40_ (by decide +kernel : decode cX13_readRoad 67 = .ok (.iaload, 1)) ?_
        refine re_iconst (pc := 68) (1 : Int32) (by decide +kernel : decode cX13_readRoad 68 = .ok (.iconst 1, 1)) (by decide) ?_
        refine re_aloadn (pc := 69) 1 (by decide +kernel : decode cX13_readRoad 69 = .ok (.aload_n 0, 1)) rfl ?_
        obtain ⟨x41_, g42_, h⟩ := rv_b_e h
        refine re_gI (pc := 70) g42_ lfX13_174 rfl (by decide +kernel : decode cX13_readRoad 70 = .ok (.getfield 174, 3)) ?_
        refine re_ishl (pc := 73) (by decide +kernel : decode cX13_readRoad 73 = .ok (.ishl, 1)) ?_
        refine re_ior (pc := 74) (by decide +kernel : decode cX13_readRoad 74 = .ok (.ior, 1)) ?_
        obtain ⟨S43_, g44_, h⟩ := rv_b_e h
        refine re_uI (pc := 75) g44_ (by decide +kernel : decode cX13_readRoad 75 = .ok (.iastore, 1)) ?_
        refine re_aloadn (pc := 76) 1 (by decide +kernel : decode cX13_readRoad 76 = .ok (.aload_n 0, 1)) rfl ?_
        obtain ⟨a45_, g46_, h⟩ := rv_b_e h
        refine re_gR (pc := 77) g46_ lfX13_16 rfl (by decide +kernel : decode cX13_readRoad 77 = .ok (.getfield 16, 3)) ?_
        refine re_sipush (pc := 80) (128 : Int32) (by decide +kernel : decode cX13_readRoad 80 = .ok (.sipush 128, 3)) (by decide) ?_
        refine re_aloadn (pc := 83) 1 (by decide +kernel : decode cX13_readRoad 83 = .ok (.aload_n 0, 1)) rfl ?_
        obtain ⟨x47_, g48_, h⟩ := rv_b_e h
        refine re_gI (pc := 84) g48_ lfX13_174 rfl (by decide +kernel : decode cX13_readRoad 84 = .ok (.getfield 174, 3)) ?_
        refine re_iadd (pc := 87) (by decide +kernel : decode cX13_readRoad 87 = .ok (.iadd, 1)) ?_
        obtain ⟨x49_, g50_, h⟩ := rv_lt_e h
        refine re_nI (pc := 88) g50_ ?_
        refine re_dup2 (pc := 88) (by decide +kernel : decode cX13_readRoad 88 = .ok (.dup2, 1)) rfl rfl ?_
        obtain ⟨x51_, g52_, h⟩ := rv_b_e h
        refine re_aI (pc := 89) g52_ (by decide +kernel : decode cX13_readRoad 89 = .ok (.iaload, 1)) ?_
        refine re_iconst (pc := 90) (1 : Int32) (by decide +kernel : decode cX13_readRoad 90 = .ok (.iconst 1, 1)) (by decide) ?_
        refine re_iloadn (pc := 91) 0 (by decide +kernel : decode cX13_readRoad 91 = .ok (.iload_n 1, 1)) rfl ?_
        refine re_ishl (pc := 92) (by decide +kernel : decode cX13_readRoad 92 = .ok (.ishl, 1)) ?_
        refine re_ior (pc := 93) (by decide +kernel : decode cX13_readRoad 93 = .ok (.ior, 1)) ?_
        obtain ⟨S53_, g54_, h⟩ := rv_b_e h
        refine re_uI (pc := 94) g54_ (by decide +kernel : decode cX13_readRoad 94 = .ok (.iastore, 1)) ?_
        refine re_aloadn (pc := 95) 1 (by decide +kernel : decode cX13_readRoad 95 = .ok (.aload_n 0, 1)) rfl ?_
        obtain ⟨u55_, g56_, h⟩ := rv_b_e h
        obtain ⟨S58_, g59_, h⟩ := rv_b_e h
        have m57_ := metX13_go n S53_ a0 _ g59_
        have z60_ : rv_same S53_ S58_ := m57_.sh rfl
        refine re_cV (pc := 96) [] m57_ (rv_okl.k z60_) (rv_up.sh z60_) (by decide) (rv_ck_e g56_) ⟨by decide, rfl⟩ (Nat.le_of_ble_eq_true rfl) lVX13_181 rfl (by decide +kernel : decode cX13_readRoad 96 = .ok (.invokevirtual 181, 3)) ?_
        refine re_iconst (pc := 99) (1 : Int32) (by decide +kernel : decode cX13_readRoad 99 = .ok (.iconst 1, 1)) (by decide) ?_
        cases h
        exact re_iret (fun ty hty => by cases hty; rfl) (by decide +kernel : decode cX13_readRoad 100 = .ok (.ireturn, 1))
      · refine re_if_eq_f (pc := 48) 57 (by decide +kernel : decode cX13_readRoad 48 = .ok (.ifCond .eq 9, 3)) (by decide) g34_ ?_
        refine re_aloadn (pc := 51) 1 (by decide +kernel : decode cX13_readRoad 51 = .ok (.aload_n 0, 1)) rfl ?_
        refine re_iconst (pc := 52) (3 : Int32) (by decide +kernel : decode cX13_readRoad 52 = .ok (.iconst 3, 1)) (by decide) ?_
        obtain ⟨u61_, g62_, h⟩ := rv_b_e h
        obtain ⟨x64_, S65_, g66_, h⟩ := rv_bp_e h
        have m63_ := metX13_bad n S21_ a0 (3 : Int32) _ _ g66_
        have z67_ : rv_same S21_ S65_ := m63_.sh rfl
        refine re_cV (pc := 53) [.int (3 : Int32)] m63_ (rv_okl.k z67_) (rv_up.sh z67_) (by decide) (rv_ck_e g62_) ⟨by decide, rfl⟩ (Nat.le_of_ble_eq_true rfl) lVX13_167 rfl (by decide +kernel : decode cX13_readRoad 53 = .ok (.invokevirtual 167, 3)) ?_
        obtain ⟨b_, gb_, h⟩ := rv_b_e h
        obtain ⟨gb1_, gb2_⟩ := rv_bo_e gb_
        refine re_nI (pc := 56) gb1_ ?_
        cases h
        exact re_iret (fun ty hty => by cases hty; exact gb2_) (by decide +kernel : decode cX13_readRoad 56 = .ok (.ireturn, 1))
theorem metX13_readRoad (n : Nat) (S : rvS) (a0 : Nat) (r : Int32) (S' : rvS) (h : fnX13_readRoad n S a0 = some (r, S')) : rv_Met yX13_readRoad mX13_readRoad 3 [.ref a0] S (some (.int r)) S' := rv_Met.of ⟨by decide +kernel, rfl, (fun z => by first | rfl | cases z), rfl⟩ (Nat.le_of_ble_eq_true rfl) rfl (eX13_readRoad_in n S a0 r S' h)
noncomputable def cX13_readCoin_105 (n : Nat) (S : rvS) (a0 : Nat) : Option (Int32 × rvS) :=
  (rv_ck S 11 a0).bind fun u1_ =>
  rv_bp (fnX13_bad n S a0 (1 : Int32)) fun x4_ S5_ =>
  (rv_bo x4_).bind fun b_ =>
  some (b_, S5_)
set_option maxRecDepth 20000 in
set_option maxHeartbeats 4000000 in
theorem eX13_readCoin_105 (n : Nat) (S : rvS) (a0 : Nat) (r : Int32) (S' : rvS) (h : cX13_readCoin_105 n S a0 = some (r, S')) : rv_Ev mX13_readCoin 4 105 [(0, .ref a0)] [] S (some (.int r)) S' := by
  unfold cX13_readCoin_105 at h
  refine re_aloadn (pc := 105) 0 (by decide +kernel : decode cX13_readCoin 105 = .ok (.aload_n 0, 1)) rfl ?_
  refine re_iconst (pc := 106) (1 : Int32) (by decide +kernel : decode cX13_readCoin 106 = .ok (.iconst 1, 1)) (by decide) ?_
  obtain ⟨u1_, g2_, h⟩ := rv_b_e h
  obtain ⟨x4_, S5_, g6_, h⟩ := rv_bp_e h
  have m3_ := metX13_bad n S a0 (1 : Int32) _ _ g6_
  have z7_ : rv_same S S5_ := m3_.sh rfl
  refine re_cV (pc := 107) [.int (1 : Int32)] m3_ (rv_okl.k z7_) (rv_up.sh z7_) (by decide) (rv_ck_e g2_) ⟨by decide, rfl⟩ (Nat.le_of_ble_eq_true rfl) lVX13_167 rfl (by decide +kernel : decode cX13_readCoin 107 = .ok (.invokevirtual 167, 3)) ?_
  obtain ⟨b_, gb_, h⟩ := rv_b_e h
  obtain ⟨gb1_, gb2_⟩ := rv_bo_e gb_
  refine re_nI (pc := 110) gb1_ ?_
  cases h
  exact re_iret (fun ty hty => by cases hty; exact gb2_) (by decide +kernel : decode cX13_readCoin 110 = .ok (.ireturn, 1))
noncomputable def cX13_readCoin_134 (n : Nat) (S : rvS) (a0 : Nat) : Option (Int32 × rvS) :=
  (rv_ck S 11 a0).bind fun u1_ =>
  rv_bp (fnX13_bad n S a0 (3 : Int32)) fun x4_ S5_ =>
  (rv_bo x4_).bind fun b_ =>
  some (b_, S5_)
set_option maxRecDepth 20000 in
set_option maxHeartbeats 4000000 in
theorem eX13_readCoin_134 (n : Nat) (S : rvS) (a0 : Nat) (r : Int32) (S' : rvS) (h : cX13_readCoin_134 n S a0 = some (r, S')) : rv_Ev mX13_readCoin 4 134 [(0, .ref a0)] [] S (some (.int r)) S' := by
  unfold cX13_readCoin_134 at h
  refine re_aloadn (pc := 134) 0 (by decide +kernel : decode cX13_readCoin 134 = .ok (.aload_n 0, 1)) rfl ?_
  refine re_iconst (pc := 135) (3 : Int32) (by decide +kernel : decode cX13_readCoin 135 = .ok (.iconst 3, 1)) (by decide) ?_
  obtain ⟨u1_, g2_, h⟩ := rv_b_e h
  obtain ⟨x4_, S5_, g6_, h⟩ := rv_bp_e h
  have m3_ := metX13_bad n S a0 (3 : Int32) _ _ g6_
  have z7_ : rv_same S S5_ := m3_.sh rfl
  refine re_cV (pc := 136) [.int (3 : Int32)] m3_ (rv_okl.k z7_) (rv_up.sh z7_) (by decide) (rv_ck_e g2_) ⟨by decide, rfl⟩ (Nat.le_of_ble_eq_true rfl) lVX13_167 rfl (by decide +kernel : decode cX13_readCoin 136 = .ok (.invokevirtual 167, 3)) ?_
  obtain ⟨b_, gb_, h⟩ := rv_b_e h
  obtain ⟨gb1_, gb2_⟩ := rv_bo_e gb_
  refine re_nI (pc := 139) gb1_ ?_
  cases h
  exact re_iret (fun ty hty => by cases hty; exact gb2_) (by decide +kernel : decode cX13_readCoin 139 = .ok (.ireturn, 1))
noncomputable def cX13_readCoin_157 (n : Nat) (S : rvS) (a0 : Nat) : Option (Int32 × rvS) :=
  (rv_ck S 11 a0).bind fun u1_ =>
  rv_bp (fnX13_bad n S a0 (4 : Int32)) fun x4_ S5_ =>
  (rv_bo x4_).bind fun b_ =>
  some (b_, S5_)
set_option maxRecDepth 20000 in
set_option maxHeartbeats 4000000 in
theorem eX13_readCoin_157 (n : Nat) (S : rvS) (a0 : Nat) (r : Int32) (S' : rvS) (h : cX13_readCoin_157 n S a0 = some (r, S')) : rv_Ev mX13_readCoin 4 157 [(0, .ref a0)] [] S (some (.int r)) S' := by
  unfold cX13_readCoin_157 at h
  refine re_aloadn (pc := 157) 0 (by decide +kernel : decode cX13_readCoin 157 = .ok (.aload_n 0, 1)) rfl ?_
  refine re_iconst (pc := 158) (4 : Int32) (by decide +kernel : decode cX13_readCoin 158 = .ok (.iconst 4, 1)) (by decide) ?_
  obtain ⟨u1_, g2_, h⟩ := rv_b_e h
  obtain ⟨x4_, S5_, g6_, h⟩ := rv_bp_e h
  have m3_ := metX13_bad n S a0 (4 : Int32) _ _ g6_
  have z7_ : rv_same S S5_ := m3_.sh rfl
  refine re_cV (pc := 159) [.int (4 : Int32)] m3_ (rv_okl.k z7_) (rv_up.sh z7_) (by decide) (rv_ck_e g2_) ⟨by decide, rfl⟩ (Nat.le_of_ble_eq_true rfl) lVX13_167 rfl (by decide +kernel : decode cX13_readCoin 159 = .ok (.invokevirtual 167, 3)) ?_
  obtain ⟨b_, gb_, h⟩ := rv_b_e h
  obtain ⟨gb1_, gb2_⟩ := rv_bo_e gb_
  refine re_nI (pc := 162) gb1_ ?_
  cases h
  exact re_iret (fun ty hty => by cases hty; exact gb2_) (by decide +kernel : decode cX13_readCoin 162 = .ok (.ireturn, 1))
noncomputable def cX13_readCoin_200 (n : Nat) (S : rvS) (a0 : Nat) : Option (Int32 × rvS) :=
  (rv_gR S 11 a0 15).bind fun a1_ =>
  (rv_aI S 0 a1_ (1 : Int32)).bind fun x3_ =>
  (rv_uI S a1_ (1 : Int32) (x3_ + (1 : Int32))).bind fun S5_ =>
  some ((1 : Int32), S5_)
set_option maxRecDepth 20000 in
set_option maxHeartbeats 4000000 in
theorem eX13_readCoin_200 (n : Nat) (S : rvS) (a0 : Nat) (r : Int32) (S' : rvS) (h : cX13_readCoin_200 n S a0 = some (r, S')) : rv_Ev mX13_readCoin 4 200 [(0, .ref a0)] [] S (some (.int r)) S' := by
  unfold cX13_readCoin_200 at h
  refine re_aloadn (pc := 200) 0 (by decide +kernel : decode cX13_readCoin 200 = .ok (.aload_n 0, 1)) rfl ?_
  obtain ⟨a1_, g2_, h⟩ := rv_b_e h
  refine re_gR (pc := 201) g2_ lfX13_16 rfl (by decide +kernel : decode cX13_readCoin 201 = .ok (.getfield 16, 3)) ?_
  refine re_iconst (pc := 204) (1 : Int32) (by decide +kernel : decode cX13_readCoin 204 = .ok (.iconst 1, 1)) (by decide) ?_
  refine re_dup2 (pc := 205) (by decide +kernel : decode cX13_readCoin 205 = .ok (.dup2, 1)) rfl rfl ?_
  obtain ⟨x3_, g4_, h⟩ := rv_b_e h
  refine re_aI (pc := 206) g4_ (by decide +kernel : decode cX13_readCoin 206 = .ok (.iaload, 1)) ?_
  refine re_iconst (pc := 207) (1 : Int32) (by decide +kernel : decode cX13_readCoin 207 = .ok (.iconst 1, 1)) (by decide) ?_
  refine re_iadd (pc := 208) (by decide +kernel : decode cX13_readCoin 208 = .ok (.iadd, 1)) ?_
  obtain ⟨S5_, g6_, h⟩ := rv_b_e h
  refine re_uI (pc := 209) g6_ (by decide +kernel : decode cX13_readCoin 209 = .ok (.iastore, 1)) ?_
  refine re_iconst (pc := 210) (1 : Int32) (by decide +kernel : decode cX13_readCoin 210 = .ok (.iconst 1, 1)) (by decide) ?_
  cases h
  exact re_iret (fun ty hty => by cases hty; rfl) (by decide +kernel : decode cX13_readCoin 211 = .ok (.ireturn, 1))
noncomputable def cX13_readCoin_90 (n : Nat) : Nat → rvS → Nat → Int32 → Option (Int32 × rvS)
  | 0, _, _, _ => none
  | k + 1, S, a0, x2 =>
    (rv_gI S 11 a0 7).bind fun x1_ =>
    if x1_ = (2 : Int32) then (
      (rv_ck S 11 a0).bind fun u4_ =>
      (fnX13_isName n S a0).bind fun x7_ =>
      if x7_ = 0 then (
        cX13_readCoin_105 n S a0)
      else (
        (rv_gR S 11 a0 19).bind fun a10_ =>
        (rv_gR S 11 a0 15).bind fun a12_ =>
        (rv_aI S 0 a12_ (0 : Int32)).bind fun x14_ =>
        (rv_gL S 11 a0 12).bind fun x16_ =>
        (fnX13_findIn n S a10_ x14_ x16_).bind fun x19_ =>
        if x19_ = (-1 : Int32) then (
          cX13_readCoin_134 n S a0)
        else (
          (rv_gR S 11 a0 15).bind fun a22_ =>
          (rv_aI S 0 a22_ (x2 + (2 : Int32))).bind fun x24_ =>
          (rv_gR S 11 a0 15).bind fun a26_ =>
          (rv_aI S 0 a26_ (3 : Int32)).bind fun x28_ =>
          if x24_ = x28_ then (
            cX13_readCoin_157 n S a0)
          else (
            (rv_gR S 11 a0 15).bind fun a31_ =>
            (rv_gR S 11 a0 15).bind fun a33_ =>
            (rv_aI S 0 a33_ (x2 + (2 : Int32))).bind fun x35_ =>
            (rv_uI S a31_ ((x2 + (3 : Int32)) + x35_) x19_).bind fun S37_ =>
            (rv_gR S37_ 11 a0 15).bind fun a39_ =>
            rv_lt (x2 + (2 : Int32)) fun x41_ =>
            (rv_aI S37_ 0 a39_ x41_).bind fun x43_ =>
            (rv_uI S37_ a39_ x41_ (x43_ + (1 : Int32))).bind fun S45_ =>
            (rv_ck S45_ 11 a0).bind fun u47_ =>
            (fnX13_go n S45_ a0).bind fun S50_ =>
            cX13_readCoin_90 n k S50_ a0 x2))))
    else (
      cX13_readCoin_200 n S a0)
set_option maxRecDepth 20000 in
set_option maxHeartbeats 4000000 in
theorem eX13_readCoin_90 (n : Nat) : ∀ (k : Nat) (S : rvS) (a0 : Nat) (x2 : Int32) (r : Int32) (S' : rvS), cX13_readCoin_90 n k S a0 x2 = some (r, S') → rv_Ev mX13_readCoin 4 90 [(0, .ref a0), (2, .int x2)] [] S (some (.int r)) S' := by
  intro k
  induction k with
  | zero => intro S a0 x2 r S' h; exact absurd h (by simp [cX13_readCoin_90])
  | succ k ih =>
    intro S a0 x2 r S' h
    unfold cX13_readCoin_90 at h
    refine re_aloadn (pc := 90) 0 (by decide +kernel : decode cX13_readCoin 90 = .ok (.aload_n 0, 1)) rfl ?_
    obtain ⟨x1_, g2_, h⟩ := rv_b_e h
    refine re_gI (pc := 91) g2_ lfX13_121 rfl (by decide +kernel : decode cX13_readCoin 91 = .ok (.getfield 121, 3)) ?_
    refine re_iconst (pc := 94) (2 : Int32) (by decide +kernel : decode cX13_readCoin 94 = .ok (.iconst 2, 1)) (by decide) ?_
    rcases rv_if_e h with ⟨g3_, h⟩ | ⟨g3_, h⟩
    · refine re_icmp_ne_f (pc := 95) 200 (by decide +kernel : decode cX13_readCoin 95 = .ok (.if_icmp .ne 105, 3)) (by decide) g3_ ?_
      refine re_aloadn (pc := 98) 0 (by decide +kernel : decode cX13_readCoin 98 = .ok (.aload_n 0, 1)) rfl ?_
      obtain ⟨u4_, g5_, h⟩ := rv_b_e h
      obtain ⟨x7_, g8_, h⟩ := rv_b_e h
      have m6_ := metX13_isName n S a0 _ g8_
      refine re_cV (pc := 99) [] m6_ (rv_okl.k ⟨rfl, rfl⟩) (rv_up.rf _ _) (by decide) (rv_ck_e g5_) ⟨by decide, rfl⟩ (Nat.le_of_ble_eq_true rfl) lVX13_208 rfl (by decide +kernel : decode cX13_readCoin 99 = .ok (.invokevirtual 208, 3)) ?_
      rcases rv_if_e h with ⟨g9_, h⟩ | ⟨g9_, h⟩
      · refine re_if_ne_f (pc := 102) 111 (by decide +kernel : decode cX13_readCoin 102 = .ok (.ifCond .ne 9, 3)) (by decide) g9_ ?_
        refine re_sub [0] (lv1 := [(0, .ref a0)]) rfl ?_
        exact eX13_readCoin_105 n S a0 _ _ h
      · refine re_if_ne_t (pc := 102) 111 (by decide +kernel : decode cX13_readCoin 102 = .ok (.ifCond .ne 9, 3)) (by decide) g9_ ?_
        refine re_aloadn (pc := 111) 0 (by decide +kernel : decode cX13_readCoin 111 = .ok (.aload_n 0, 1)) rfl ?_
        obtain ⟨a10_, g11_, h⟩ := rv_b_e h
        refine re_gR (pc := 112) g11_ lfX13_29 rfl (by decide +kernel : decode cX13_readCoin 112 = .ok (.getfield 29, 3)) ?_
        refine re_aloadn (pc := 115) 0 (by decide +kernel : decode cX13_readCoin 115 = .ok (.aload_n 0, 1)) rfl ?_
        obtain ⟨a12_, g13_, h⟩ := rv_b_e h
        refine re_gR (pc := 116) g13_ lfX13_16 rfl (by decide +kernel : decode cX13_readCoin 116 = .ok (.getfield 16, 3)) ?_
        refine re_iconst (pc := 119) (0 : Int32) (by decide +kernel : decode cX13_readCoin 119 = .ok (.iconst 0, 1)) (by decide) ?_
        obtain ⟨x14_, g15_, h⟩ := rv_b_e h
        refine re_aI (pc := 120) g15_ (by decide +kernel : decode cX13_readCoin 120 = .ok (.iaload, 1)) ?_
        refine re_aloadn (pc := 121) 0 (by decide +kernel : decode cX13_readCoin 121 = .ok (.aload_n 0, 1)) rfl ?_
        obtain ⟨x16_, g17_, h⟩ := rv_b_e h
        refine re_gL (pc := 122) g17_ lfX13_134 rfl (by decide +kernel : decode cX13_readCoin 122 = .ok (.getfield 134, 3)) ?_
        obtain ⟨x19_, g20_, h⟩ := rv_b_e h
        have m18_ := metX13_findIn n S a10_ x14_ x16_ _ g20_
        refine re_cS (pc := 125) [.ref a10_, .int x14_, .long x16_] m18_ (rv_okl.k ⟨rfl, rfl⟩) (rv_up.rf _ _) (by decide) (Nat.le_of_ble_eq_true rfl) lSX13_212 rfl (by decide +kernel : decode cX13_readCoin 125 = .ok (.invokestatic 212, 3)) ?_
        refine re_istoren (pc := 128) (lv1 := [(3, .int x19_), (0, .ref a0), (2, .int x2)]) (by decide +kernel : decode cX13_readCoin 128 = .ok (.istore_n 3, 1)) rfl (by decide) rfl ?_
        refine re_iloadn (pc := 129) 0 (by decide +kernel : decode cX13_readCoin 129 = .ok (.iload_n 3, 1)) rfl ?_
        refine re_iconst (pc := 130) (-1 : Int32) (by decide +kernel : decode cX13_readCoin 130 = .ok (.iconst (-1), 1)) (by decide) ?_
        rcases rv_if_e h with ⟨g21_, h⟩ | ⟨g21_, h⟩
        · refine re_icmp_ne_f (pc := 131) 140 (by decide +kernel : decode cX13_readCoin 131 = .ok (.if_icmp .ne 9, 3)) (by decide) g21_ ?_
          refine re_sub [1] (lv1 := [(0, .ref a0)]) rfl ?_
          exact eX13_readCoin_134 n S a0 _ _ h
        · refine re_icmp_ne_t (pc := 131) 140 (by decide +kernel : decode cX13_readCoin 131 = .ok (.if_icmp .ne 9, 3)) (by decide) g21_ ?_
          refine re_aloadn (pc := 140) 1 (by decide +kernel : decode cX13_readCoin 140 = .ok (.aload_n 0, 1)) rfl ?_
          obtain ⟨a22_, g23_, h⟩ := rv_b_e h
          refine re_gR (pc := 141) g23_ lfX13_16 rfl (by decide +kernel : decode cX13_readCoin 141 = .ok (.getfield 16, 3)) ?_
          refine re_iloadn (pc := 144) 2 (by decide +kernel : decode cX13_readCoin 144 = .ok (.iload_n 2, 1)) rfl ?_
          refine re_iconst (pc := 145) (2 : Int32) (by decide +kernel : decode cX13_readCoin 145 = .ok (.iconst 2, 1)) (by decide) ?_
          refine re_iadd (pc := 146) (by decide +kernel : decode cX13_readCoin 146 = .ok (.iadd, 1)) ?_
          obtain ⟨x24_, g25_, h⟩ := rv_b_e h
          refine re_aI (pc := 147) g25_ (by decide +kernel : decode cX13_readCoin 147 = .ok (.iaload, 1)) ?_
          refine re_aloadn (pc := 148) 1 (by decide +kernel : decode cX13_readCoin 148 = .ok (.aload_n 0, 1)) rfl ?_
          obtain ⟨a26_, g27_, h⟩ := rv_b_e h
          refine re_gR (pc := 149) g27_ lfX13_16 rfl (by decide +kernel : decode cX13_readCoin 149 = .ok (.getfield 16, 3)) ?_
          refine re_iconst (pc := 152) (3 : Int32) (by decide +kernel : decode cX13_readCoin 152 = .ok (.iconst 3, 1)) (by decide) ?_
          obtain ⟨x28_, g29_, h⟩ := rv_b_e h
          refine re_aI (pc := 153) g29_ (by decide +kernel : decode cX13_readCoin 153 = .ok (.iaload, 1)) ?_
          rcases rv_if_e h with ⟨g30_, h⟩ | ⟨g30_, h⟩
          · refine re_icmp_ne_f (pc := 154) 163 (by decide +kernel : decode cX13_readCoin 154 = .ok (.if_icmp .ne 9, 3)) (by decide) g30_ ?_
            refine re_sub [1] (lv1 := [(0, .ref a0)]) rfl ?_
            exact eX13_readCoin_157 n S a0 _ _ h
          · refine re_icmp_ne_t (pc := 154) 163 (by decide +kernel : decode cX13_readCoin 154 = .ok (.if_icmp .ne 9, 3)) (by decide) g30_ ?_
            refine re_aloadn (pc := 163) 1 (by decide +kernel : decode cX13_readCoin 163 = .ok (.aload_n 0, 1)) rfl ?_
            obtain ⟨a31_, g32_, h⟩ := rv_b_e h
            refine re_gR (pc := 164) g32_ lfX13_16 rfl (by decide +kernel : decode cX13_readCoin 164 = .ok (.getfield 16, 3)) ?_
            refine re_iloadn (pc := 167) 2 (by decide +kernel : decode cX13_readCoin 167 = .ok (.iload_n 2, 1)) rfl ?_
            refine re_iconst (pc := 168) (3 : Int32) (by decide +kernel : decode cX13_readCoin 168 = .ok (.iconst 3, 1)) (by decide) ?_
            refine re_iadd (pc := 169) (by decide +kernel : decode cX13_readCoin 169 = .ok (.iadd, 1)) ?_
            refine re_aloadn (pc := 170) 1 (by decide +kernel : decode cX13_readCoin 170 = .ok (.aload_n 0, 1)) rfl ?_
            obtain ⟨a33_, g34_, h⟩ := rv_b_e h
            refine re_gR (pc := 171) g34_ lfX13_16 rfl (by decide +kernel : decode cX13_readCoin 171 = .ok (.getfield 16, 3)) ?_
            refine re_iloadn (pc := 174) 2 (by decide +kernel : decode cX13_readCoin 174 = .ok (.iload_n 2, 1)) rfl ?_
            refine re_iconst (pc := 175) (2 : Int32) (by decide +kernel : decode cX13_readCoin 175 = .ok (.iconst 2, 1)) (by decide) ?_
            refine re_iadd (pc := 176) (by decide +kernel : decode cX13_readCoin 176 = .ok (.iadd, 1)) ?_
            obtain ⟨x35_, g36_, h⟩ := rv_b_e h
            refine re_aI (pc := 177) g36_ (by decide +kernel : decode cX13_readCoin 177 = .ok (.iaload, 1)) ?_
            refine re_iadd (pc := 178) (by decide +kernel : decode cX13_readCoin 178 = .ok (.iadd, 1)) ?_
            refine re_iloadn (pc := 179) 0 (by decide +kernel : decode cX13_readCoin 179 = .ok (.iload_n 3, 1)) rfl ?_
            obtain ⟨S37_, g38_, h⟩ := rv_b_e h
            refine re_uI (pc := 180) g38_ (by decide +kernel : decode cX13_readCoin 180 = .ok (.iastore, 1)) ?_
            refine re_aloadn (pc := 181) 1 (by decide +kernel : decode cX13_readCoin 181 = .ok (.aload_n 0, 1)) rfl ?_
            obtain ⟨a39_, g40_, h⟩ := rv_b_e h
            refine re_gR (pc := 182) g40_ lfX13_16 rfl (by decide +kernel : decode cX13_readCoin 182 = .ok (.getfield 16, 3)) ?_
            refine re_iloadn (pc := 185) 2 (by decide +kernel : decode cX13_readCoin 185 = .ok (.iload_n 2, 1)) rfl ?_
            refine re_iconst (pc := 186) (2 : Int32) (by decide +kernel : decode cX13_readCoin 186 = .ok (.iconst 2, 1)) (by decide) ?_
            refine re_iadd (pc := 187) (by decide +kernel : decode cX13_readCoin 187 = .ok (.iadd, 1)) ?_
            obtain ⟨x41_, g42_, h⟩ := rv_lt_e h
            refine re_nI (pc := 188) g42_ ?_
            refine re_dup2 (pc := 188) (by decide +kernel : decode cX13_readCoin 188 = .ok (.dup2, 1)) rfl rfl ?_
            obtain ⟨x43_, g44_, h⟩ := rv_b_e h
            refine re_aI (pc := 189) g44_ (by decide +kernel : decode cX13_readCoin 189 = .ok (.iaload, 1)) ?_
            refine re_iconst (pc := 190) (1 : Int32) (by decide +kernel : decode cX13_readCoin 190 = .ok (.iconst 1, 1)) (by decide) ?_
            refine re_iadd (pc := 191) (by decide +kernel : decode cX13_readCoin 191 = .ok (.iadd, 1)) ?_
            obtain ⟨S45_, g46_, h⟩ := rv_b_e h
            refine re_uI (pc := 192) g46_ (by decide +kernel : decode cX13_readCoin 192 = .ok (.iastore, 1)) ?_
            refine re_aloadn (pc := 193) 1 (by decide +kernel : decode cX13_readCoin 193 = .ok (.aload_n 0, 1)) rfl ?_
            obtain ⟨u47_, g48_, h⟩ := rv_b_e h
            obtain ⟨S50_, g51_, h⟩ := rv_b_e h
            have m49_ := metX13_go n S45_ a0 _ g51_
            have z52_ : rv_same S45_ S50_ := m49_.sh rfl
            refine re_cV (pc := 194) [] m49_ (rv_okl.k z52_) (rv_up.sh z52_) (by decide) (rv_ck_e g48_) ⟨by decide, rfl⟩ (Nat.le_of_ble_eq_true rfl) lVX13_181 rfl (by decide +kernel : decode cX13_readCoin 194 = .ok (.invokevirtual 181, 3)) ?_
            refine re_goto (pc := 197) 90 (by decide +kernel : decode cX13_readCoin 197 = .ok (.goto (-107), 3)) (by decide) ?_
            refine re_sub [1, 2] (lv1 := [(0, .ref a0), (2, .int x2)]) rfl ?_
            exact ih S50_ a0 x2 _ _ h
    · refine re_icmp_ne_t (pc := 95) 200 (by decide +kernel : decode cX13_readCoin 95 = .ok (.if_icmp .ne 105, 3)) (by decide) g3_ ?_
      refine re_sub [0] (lv1 := [(0, .ref a0)]) rfl ?_
      exact eX13_readCoin_200 n S a0 _ _ h
noncomputable def fnX13_readCoin (n : Nat) (S : rvS) (a0 : Nat) : Option (Int32 × rvS) :=
  (rv_gR S 11 a0 15).bind fun a1_ =>
  (rv_aI S 0 a1_ (1 : Int32)).bind fun x3_ =>
  if x3_ = (40 : Int32) then (
    (rv_ck S 11 a0).bind fun u52_ =>
    rv_bp (fnX13_bad n S a0 (4 : Int32)) fun x55_ S56_ =>
    (rv_bo x55_).bind fun b_ =>
    some (b_, S56_))
  else (
    rv_lt ((132 : Int32) + ((6 : Int32) * x3_)) fun x6_ =>
    (rv_ck S 11 a0).bind fun u8_ =>
    (fnX13_go n S a0).bind fun S11_ =>
    (rv_ck S11_ 11 a0).bind fun u14_ =>
    rv_bp (fnX13_readNumber n S11_ a0 (1 : Int32) (99 : Int32)) fun x17_ S18_ =>
    if x17_ = 0 then (
      some ((0 : Int32), S18_))
    else (
      (rv_gR S18_ 11 a0 15).bind fun a22_ =>
      (rv_gI S18_ 11 a0 13).bind fun x24_ =>
      (rv_uI S18_ a22_ (x6_ + (0 : Int32)) x24_).bind fun S26_ =>
      (rv_ck S26_ 11 a0).bind fun u28_ =>
      rv_bp (fnX13_isToldWho n S26_ a0) fun x31_ S32_ =>
      if x31_ = 0 then (
        some ((0 : Int32), S32_))
      else (
        (rv_gR S32_ 11 a0 15).bind fun a36_ =>
        (rv_gI S32_ 11 a0 13).bind fun x38_ =>
        (rv_uI S32_ a36_ (x6_ + (1 : Int32)) x38_).bind fun S40_ =>
        (rv_gR S40_ 11 a0 15).bind fun a42_ =>
        (rv_uI S40_ a42_ (x6_ + (2 : Int32)) (0 : Int32)).bind fun S44_ =>
        (rv_ck S44_ 11 a0).bind fun u46_ =>
        (fnX13_go n S44_ a0).bind fun S49_ =>
        cX13_readCoin_90 n n S49_ a0 x6_)))
set_option maxRecDepth 20000 in
set_option maxHeartbeats 4000000 in
theorem eX13_readCoin_in (n : Nat) (S : rvS) (a0 : Nat) (r : Int32) (S' : rvS) (h : fnX13_readCoin n S a0 = some (r, S')) : rv_Ev mX13_readCoin 4 0 [(0, .ref a0)] [] S (some (.int r)) S' := by
  unfold fnX13_readCoin at h
  refine re_aloadn (pc := 0) 0 (by decide +kernel : decode cX13_readCoin 0 = .ok (.aload_n 0, 1)) rfl ?_
  obtain ⟨a1_, g2_, h⟩ := rv_b_e h
  refine re_gR (pc := 1) g2_ lfX13_16 rfl (by decide +kernel : decode cX13_readCoin 1 = .ok (.getfield 16, 3)) ?_
  refine re_iconst (pc := 4) (1 : Int32) (by decide +kernel : decode cX13_readCoin 4 = .ok (.iconst 1, 1)) (by decide) ?_
  obtain ⟨x3_, g4_, h⟩ := rv_b_e h
  refine re_aI (pc := 5) g4_ (by decide +kernel : decode cX13_readCoin 5 = .ok (.iaload, 1)) ?_
  refine re_istoren (pc := 6) (lv1 := [(1, .int x3_), (0, .ref a0)]) (by decide +kernel : decode cX13_readCoin 6 = .ok (.istore_n 1, 1)) rfl (by decide) rfl ?_
  refine re_iloadn (pc := 7) 0 (by decide +kernel : decode cX13_readCoin 7 = .ok (.iload_n 1, 1)) rfl ?_
  refine re_bipush (pc := 8) (40 : Int32) (by decide +kernel : decode cX13_readCoin 8 = .ok (.bipush 40, 2)) (by decide) ?_
  rcases rv_if_e h with ⟨g5_, h⟩ | ⟨g5_, h⟩
  · refine re_icmp_ne_f (pc := 10) 19 (by decide +kernel : decode cX13_readCoin 10 = .ok (.if_icmp .ne 9, 3)) (by decide) g5_ ?_
    refine re_aloadn (pc := 13) 1 (by decide +kernel : decode cX13_readCoin 13 = .ok (.aload_n 0, 1)) rfl ?_
    refine re_iconst (pc := 14) (4 : Int32) (by decide +kernel : decode cX13_readCoin 14 = .ok (.iconst 4, 1)) (by decide) ?_
    obtain ⟨u52_, g53_, h⟩ := rv_b_e h
    obtain ⟨x55_, S56_, g57_, h⟩ := rv_bp_e h
    have m54_ := metX13_bad n S a0 (4 : Int32) _ _ g57_
    have z58_ : rv_same S S56_ := m54_.sh rfl
    refine re_cV (pc := 15) [.int (4 : Int32)] m54_ (rv_okl.k z58_) (rv_up.sh z58_) (by decide) (rv_ck_e g53_) ⟨by decide, rfl⟩ (Nat.le_of_ble_eq_true rfl) lVX13_167 rfl (by decide +kernel : decode cX13_readCoin 15 = .ok (.invokevirtual 167, 3)) ?_
    obtain ⟨b_, gb_, h⟩ := rv_b_e h
    obtain ⟨gb1_, gb2_⟩ := rv_bo_e gb_
    refine re_nI (pc := 18) gb1_ ?_
    cases h
    exact re_iret (fun ty hty => by cases hty; exact gb2_) (by decide +kernel : decode cX13_readCoin 18 = .ok (.ireturn, 1))
  · refine re_icmp_ne_t (pc := 10) 19 (by decide +kernel : decode cX13_readCoin 10 = .ok (.if_icmp .ne 9, 3)) (by decide) g5_ ?_
    refine re_sipush (pc := 19) (132 : Int32) (by decide +kernel : decode cX13_readCoin 19 = .ok (.sipush 132, 3)) (by decide) ?_
    refine re_bipush (pc := 22) (6 : Int32) (by decide +kernel : decode cX13_readCoin 22 = .ok (.bipush 6, 2)) (by decide) ?_
    refine re_iloadn (pc := 24) 0 (by decide +kernel : decode cX13_readCoin 24 = .ok (.iload_n 1, 1)) rfl ?_
    refine re_imul (pc := 25) (by decide +kernel : decode cX13_readCoin 25 = .ok (.imul, 1)) ?_
    refine re_iadd (pc := 26) (by decide +kernel : decode cX13_readCoin 26 = .ok (.iadd, 1)) ?_
    obtain ⟨x6_, g7_, h⟩ := rv_lt_e h
    refine re_nI (pc := 27) g7_ ?_
    refine re_istoren (pc := 27) (lv1 := [(2, .int x6_), (1, .int x3_), (0, .ref a0)]) (by decide +kernel : decode cX13_readCoin 27 = .ok (.istore_n 2, 1)) rfl (by decide) rfl ?_
    refine re_aloadn (pc := 28) 2 (by decide +kernel : decode cX13_readCoin 28 = .ok (.aload_n 0, 1)) rfl ?_
    obtain ⟨u8_, g9_, h⟩ := rv_b_e h
    obtain ⟨S11_, g12_, h⟩ := rv_b_e h
    have m10_ := metX13_go n S a0 _ g12_
    have z13_ : rv_same S S11_ := m10_.sh rfl
    refine re_cV (pc := 29) [] m10_ (rv_okl.k z13_) (rv_up.sh z13_) (by decide) (rv_ck_e g9_) ⟨by decide, rfl⟩ (Nat.le_of_ble_eq_true rfl) lVX13_181 rfl (by decide +kernel : decode cX13_readCoin 29 = .ok (.invokevirtual 181, 3)) ?_
    refine re_aloadn (pc := 32) 2 (by decide +kernel : decode cX13_readCoin 32 = .ok (.aload_n 0, 1)) rfl ?_
    refine re_iconst (pc := 33) (1 : Int32) (by decide +kernel : decode cX13_readCoin 33 = .ok (.iconst 1, 1)) (by decide) ?_
    refine re_bipush (pc := 34) (99 : Int32) (by decide +kernel : decode cX13_readCoin 34 = .ok (.bipush 99, 2)) (by decide) ?_
    obtain ⟨u14_, g15_, h⟩ := rv_b_e h
    obtain ⟨x17_, S18_, g19_, h⟩ := rv_bp_e h
    have m16_ := metX13_readNumber n S11_ a0 (1 : Int32) (99 : Int32) _ _ g19_
    have z20_ : rv_same S11_ S18_ := m16_.sh rfl
    refine re_cV (pc := 36) [.int (1 : Int32), .int (99 : Int32)] m16_ (rv_okl.k z20_) (rv_up.sh z20_) (by decide) (rv_ck_e g15_) ⟨by decide, rfl⟩ (Nat.le_of_ble_eq_true rfl) lVX13_216 rfl (by decide +kernel : decode cX13_readCoin 36 = .ok (.invokevirtual 216, 3)) ?_
    rcases rv_if_e h with ⟨g21_, h⟩ | ⟨g21_, h⟩
    · refine re_if_ne_f (pc := 39) 44 (by decide +kernel : decode cX13_readCoin 39 = .ok (.ifCond .ne 5, 3)) (by decide) g21_ ?_
      refine re_iconst (pc := 42) (0 : Int32) (by decide +kernel : decode cX13_readCoin 42 = .ok (.iconst 0, 1)) (by decide) ?_
      cases h
      exact re_iret (fun ty hty => by cases hty; rfl) (by decide +kernel : decode cX13_readCoin 43 = .ok (.ireturn, 1))
    · refine re_if_ne_t (pc := 39) 44 (by decide +kernel : decode cX13_readCoin 39 = .ok (.ifCond .ne 5, 3)) (by decide) g21_ ?_
      refine re_aloadn (pc := 44) 2 (by decide +kernel : decode cX13_readCoin 44 = .ok (.aload_n 0, 1)) rfl ?_
      obtain ⟨a22_, g23_, h⟩ := rv_b_e h
      refine re_gR (pc := 45) g23_ lfX13_16 rfl (by decide +kernel : decode cX13_readCoin 45 = .ok (.getfield 16, 3)) ?_
      refine re_iloadn (pc := 48) 0 (by decide +kernel : decode cX13_readCoin 48 = .ok (.iload_n 2, 1)) rfl ?_
      refine re_iconst (pc := 49) (0 : Int32) (by decide +kernel : decode cX13_readCoin 49 = .ok (.iconst 0, 1)) (by decide) ?_
      refine re_iadd (pc := 50) (by decide +kernel : decode cX13_readCoin 50 = .ok (.iadd, 1)) ?_
      refine re_aloadn (pc := 51) 2 (by decide +kernel : decode cX13_readCoin 51 = .ok (.aload_n 0, 1)) rfl ?_
      obtain ⟨x24_, g25_, h⟩ := rv_b_e h
      refine re_gI (pc := 52) g25_ lfX13_174 rfl (by decide +kernel : decode cX13_readCoin 52 = .ok (.getfield 174, 3)) ?_
      obtain ⟨S26_, g27_, h⟩ := rv_b_e h
      refine re_uI (pc := 55) g27_ (by decide +kernel : decode cX13_readCoin 55 = .ok (.iastore, 1)) ?_
      refine re_aloadn (pc := 56) 2 (by decide +kernel : decode cX13_readCoin 56 = .ok (.aload_n 0, 1)) rfl ?_
      obtain ⟨u28_, g29_, h⟩ := rv_b_e h
      obtain ⟨x31_, S32_, g33_, h⟩ := rv_bp_e h
      have m30_ := metX13_isToldWho n S26_ a0 _ _ g33_
      have z34_ : rv_same S26_ S32_ := m30_.sh rfl
      refine re_cV (pc := 57) [] m30_ (rv_okl.k z34_) (rv_up.sh z34_) (by decide) (rv_ck_e g29_) ⟨by decide, rfl⟩ (Nat.le_of_ble_eq_true rfl) lVX13_219 rfl (by decide +kernel : decode cX13_readCoin 57 = .ok (.invokevirtual 219, 3)) ?_
      rcases rv_if_e h with ⟨g35_, h⟩ | ⟨g35_, h⟩
      · refine re_if_ne_f (pc := 60) 65 (by decide +kernel : decode cX13_readCoin 60 = .ok (.ifCond .ne 5, 3)) (by decide) g35_ ?_
        refine re_iconst (pc := 63) (0 : Int32) (by decide +kernel : decode cX13_readCoin 63 = .ok (.iconst 0, 1)) (by decide) ?_
        cases h
        exact re_iret (fun ty hty => by cases hty; rfl) (by decide +kernel : decode cX13_readCoin 64 = .ok (.ireturn, 1))
      · refine re_if_ne_t (pc := 60) 65 (by decide +kernel : decode cX13_readCoin 60 = .ok (.ifCond .ne 5, 3)) (by decide) g35_ ?_
        refine re_aloadn (pc := 65) 2 (by decide +kernel : decode cX13_readCoin 65 = .ok (.aload_n 0, 1)) rfl ?_
        obtain ⟨a36_, g37_, h⟩ := rv_b_e h
        refine re_gR (pc := 66) g37_ lfX13_16 rfl (by decide +kernel : decode cX13_readCoin 66 = .ok (.getfield 16, 3)) ?_
        refine re_iloadn (pc := 69) 0 (by decide +kernel : decode cX13_readCoin 69 = .ok (.iload_n 2, 1)) rfl ?_
        refine re_iconst (pc := 70) (1 : Int32) (by decide +kernel : decode cX13_readCoin 70 = .ok (.iconst 1, 1)) (by decide) ?_
        refine re_iadd (pc := 71) (by decide +kernel : decode cX13_readCoin 71 = .ok (.iadd, 1)) ?_
        refine re_aloadn (pc := 72) 2 (by decide +kernel : decode cX13_readCoin 72 = .ok (.aload_n 0, 1)) rfl ?_
        obtain ⟨x38_, g39_, h⟩ := rv_b_e h
        refine re_gI (pc := 73) g39_ lfX13_174 rfl (by decide +kernel : decode cX13_readCoin 73 = .ok (.getfield 174, 3)) ?_
        obtain ⟨S40_, g41_, h⟩ := rv_b_e h
        refine re_uI (pc := 76) g41_ (by decide +kernel : decode cX13_readCoin 76 = .ok (.iastore, 1)) ?_
        refine re_aloadn (pc := 77) 2 (by decide +kernel : decode cX13_readCoin 77 = .ok (.aload_n 0, 1)) rfl ?_
        obtain ⟨a42_, g43_, h⟩ := rv_b_e h
        refine re_gR (pc := 78) g43_ lfX13_16 rfl (by decide +kernel : decode cX13_readCoin 78 = .ok (.getfield 16, 3)) ?_
        refine re_iloadn (pc := 81) 0 (by decide +kernel : decode cX13_readCoin 81 = .ok (.iload_n 2, 1)) rfl ?_
        refine re_iconst (pc := 82) (2 : Int32) (by decide +kernel : decode cX13_readCoin 82 = .ok (.iconst 2, 1)) (by decide) ?_
        refine re_iadd (pc := 83) (by decide +kernel : decode cX13_readCoin 83 = .ok (.iadd, 1)) ?_
        refine re_iconst (pc := 84) (0 : Int32) (by decide +kernel : decode cX13_readCoin 84 = .ok (.iconst 0, 1)) (by decide) ?_
        obtain ⟨S44_, g45_, h⟩ := rv_b_e h
        refine re_uI (pc := 85) g45_ (by decide +kernel : decode cX13_readCoin 85 = .ok (.iastore, 1)) ?_
        refine re_aloadn (pc := 86) 2 (by decide +kernel : decode cX13_readCoin 86 = .ok (.aload_n 0, 1)) rfl ?_
        obtain ⟨u46_, g47_, h⟩ := rv_b_e h
        obtain ⟨S49_, g50_, h⟩ := rv_b_e h
        have m48_ := metX13_go n S44_ a0 _ g50_
        have z51_ : rv_same S44_ S49_ := m48_.sh rfl
        refine re_cV (pc := 87) [] m48_ (rv_okl.k z51_) (rv_up.sh z51_) (by decide) (rv_ck_e g47_) ⟨by decide, rfl⟩ (Nat.le_of_ble_eq_true rfl) lVX13_181 rfl (by decide +kernel : decode cX13_readCoin 87 = .ok (.invokevirtual 181, 3)) ?_
        refine re_sub [2, 0] (lv1 := [(0, .ref a0), (2, .int x6_)]) rfl ?_
        exact eX13_readCoin_90 n n S49_ a0 x6_ _ _ h
theorem metX13_readCoin (n : Nat) (S : rvS) (a0 : Nat) (r : Int32) (S' : rvS) (h : fnX13_readCoin n S a0 = some (r, S')) : rv_Met yX13_readCoin mX13_readCoin 4 [.ref a0] S (some (.int r)) S' := rv_Met.of ⟨by decide +kernel, rfl, (fun z => by first | rfl | cases z), rfl⟩ (Nat.le_of_ble_eq_true rfl) rfl (eX13_readCoin_in n S a0 r S' h)
noncomputable def fnX13_readOwes (n : Nat) (S : rvS) (a0 : Nat) : Option (Int32 × rvS) :=
  (rv_gR S 11 a0 15).bind fun a1_ =>
  (rv_aI S 0 a1_ (2 : Int32)).bind fun x3_ =>
  rv_lt ((372 : Int32) + ((4 : Int32) * x3_)) fun x5_ =>
  (rv_gR S 11 a0 15).bind fun a7_ =>
  (rv_aI S 0 a7_ (2 : Int32)).bind fun x9_ =>
  if x9_ = (12 : Int32) then (
    (rv_ck S 11 a0).bind fun u96_ =>
    rv_bp (fnX13_bad n S a0 (4 : Int32)) fun x99_ S100_ =>
    (rv_bo x99_).bind fun b_ =>
    some (b_, S100_))
  else (
    (rv_ck S 11 a0).bind fun u12_ =>
    (fnX13_go n S a0).bind fun S15_ =>
    (rv_ck S15_ 11 a0).bind fun u18_ =>
    rv_bp (fnX13_isToldWho n S15_ a0) fun x21_ S22_ =>
    if x21_ = 0 then (
      some ((0 : Int32), S22_))
    else (
      (rv_gR S22_ 11 a0 15).bind fun a26_ =>
      (rv_gI S22_ 11 a0 13).bind fun x28_ =>
      (rv_uI S22_ a26_ x5_ x28_).bind fun S30_ =>
      (rv_ck S30_ 11 a0).bind fun u32_ =>
      (fnX13_go n S30_ a0).bind fun S35_ =>
      (rv_ck S35_ 11 a0).bind fun u38_ =>
      rv_bp (fnX13_isToldWho n S35_ a0) fun x41_ S42_ =>
      if x41_ = 0 then (
        some ((0 : Int32), S42_))
      else (
        (rv_gI S42_ 11 a0 13).bind fun x46_ =>
        (rv_gR S42_ 11 a0 15).bind fun a48_ =>
        (rv_aI S42_ 0 a48_ x5_).bind fun x50_ =>
        if x46_ = x50_ then (
          (rv_ck S42_ 11 a0).bind fun u89_ =>
          rv_bp (fnX13_bad n S42_ a0 (3 : Int32)) fun x92_ S93_ =>
          (rv_bo x92_).bind fun b_ =>
          some (b_, S93_))
        else (
          (rv_gR S42_ 11 a0 15).bind fun a53_ =>
          (rv_gI S42_ 11 a0 13).bind fun x55_ =>
          (rv_uI S42_ a53_ (x5_ + (1 : Int32)) x55_).bind fun S57_ =>
          (rv_ck S57_ 11 a0).bind fun u59_ =>
          (fnX13_go n S57_ a0).bind fun S62_ =>
          (rv_ck S62_ 11 a0).bind fun u65_ =>
          rv_bp (fnX13_readNumber n S62_ a0 (1 : Int32) (999 : Int32)) fun x68_ S69_ =>
          if x68_ = 0 then (
            some ((0 : Int32), S69_))
          else (
            (rv_gR S69_ 11 a0 15).bind fun a73_ =>
            (rv_gI S69_ 11 a0 13).bind fun x75_ =>
            (rv_uI S69_ a73_ (x5_ + (2 : Int32)) x75_).bind fun S77_ =>
            (rv_gR S77_ 11 a0 15).bind fun a79_ =>
            (rv_uI S77_ a79_ (x5_ + (3 : Int32)) (0 : Int32)).bind fun S81_ =>
            (rv_gR S81_ 11 a0 15).bind fun a83_ =>
            (rv_aI S81_ 0 a83_ (2 : Int32)).bind fun x85_ =>
            (rv_uI S81_ a83_ (2 : Int32) (x85_ + (1 : Int32))).bind fun S87_ =>
            some ((1 : Int32), S87_))))))
set_option maxRecDepth 20000 in
set_option maxHeartbeats 4000000 in
theorem eX13_readOwes_in (n : Nat) (S : rvS) (a0 : Nat) (r : Int32) (S' : rvS) (h : fnX13_readOwes n S a0 = some (r, S')) : rv_Ev mX13_readOwes 4 0 [(0, .ref a0)] [] S (some (.int r)) S' := by
  unfold fnX13_readOwes at h
  refine re_sipush (pc := 0) (372 : Int32) (by decide +kernel : decode cX13_readOwes 0 = .ok (.sipush 372, 3)) (by decide) ?_
  refine re_iconst (pc := 3) (4 : Int32) (by decide +kernel : decode cX13_readOwes 3 = .ok (.iconst 4, 1)) (by decide) ?_
  refine re_aloadn (pc := 4) 0 (by decide +kernel : decode cX13_readOwes 4 = .ok (.aload_n 0, 1)) rfl ?_
  obtain ⟨a1_, g2_, h⟩ := rv_b_e h
  refine re_gR (pc := 5) g2_ lfX13_16 rfl (by decide +kernel : decode cX13_readOwes 5 = .ok (.getfield 16, 3)) ?_
  refine re_iconst (pc := 8) (2 : Int32) (by decide +kernel : decode cX13_readOwes 8 = .ok (.iconst 2, 1)) (by decide) ?_
  obtain ⟨x3_, g4_, h⟩ := rv_b_e h
  refine re_aI (pc := 9) g4_ (by decide +kernel : decode cX13_readOwes 9 = .ok (.iaload, 1)) ?_
  refine re_imul (pc := 10) (by decide +kernel : decode cX13_readOwes 10 = .ok (.imul, 1)) ?_
  refine re_iadd (pc := 11) (by decide +kernel : decode cX13_readOwes 11 = .ok (.iadd, 1)) ?_
  obtain ⟨x5_, g6_, h⟩ := rv_lt_e h
  refine re_nI (pc := 12) g6_ ?_
  refine re_istoren (pc := 12) (lv1 := [(1, .int x5_), (0, .ref a0)]) (by decide +kernel : decode cX13_readOwes 12 = .ok (.istore_n 1, 1)) rfl (by decide) rfl ?_
  refine re_aloadn (pc := 13) 1 (by decide +kernel : decode cX13_readOwes 13 = .ok (.aload_n 0, 1)) rfl ?_
  obtain ⟨a7_, g8_, h⟩ := rv_b_e h
  refine re_gR (pc := 14) g8_ lfX13_16 rfl (by decide +kernel : decode cX13_readOwes 14 = .ok (.getfield 16, 3)) ?_
  refine re_iconst (pc := 17) (2 : Int32) (by decide +kernel : decode cX13_readOwes 17 = .ok (.iconst 2, 1)) (by decide) ?_
  obtain ⟨x9_, g10_, h⟩ := rv_b_e h
  refine re_aI (pc := 18) g10_ (by decide +kernel : decode cX13_readOwes 18 = .ok (.iaload, 1)) ?_
  refine re_bipush (pc := 19) (12 : Int32) (by decide +kernel : decode cX13_readOwes 19 = .ok (.bipush 12, 2)) (by decide) ?_
  rcases rv_if_e h with ⟨g11_, h⟩ | ⟨g11_, h⟩
  · refine re_icmp_ne_f (pc := 21) 30 (by decide +kernel : decode cX13_readOwes 21 = .ok (.if_icmp .ne 9, 3)) (by decide) g11_ ?_
    refine re_aloadn (pc := 24) 1 (by decide +kernel : decode cX13_readOwes 24 = .ok (.aload_n 0, 1)) rfl ?_
    refine re_iconst (pc := 25) (4 : Int32) (by decide +kernel : decode cX13_readOwes 25 = .ok (.iconst 4, 1)) (by decide) ?_
    obtain ⟨u96_, g97_, h⟩ := rv_b_e h
    obtain ⟨x99_, S100_, g101_, h⟩ := rv_bp_e h
    have m98_ := metX13_bad n S a0 (4 : Int32) _ _ g101_
    have z102_ : rv_same S S100_ := m98_.sh rfl
    refine re_cV (pc := 26) [.int (4 : Int32)] m98_ (rv_okl.k z102_) (rv_up.sh z102_) (by decide) (rv_ck_e g97_) ⟨by decide, rfl⟩ (Nat.le_of_ble_eq_true rfl) lVX13_167 rfl (by decide +kernel : decode cX13_readOwes 26 = .ok (.invokevirtual 167, 3)) ?_
    obtain ⟨b_, gb_, h⟩ := rv_b_e h
    obtain ⟨gb1_, gb2_⟩ := rv_bo_e gb_
    refine re_nI (pc := 29) gb1_ ?_
    cases h
    exact re_iret (fun ty hty => by cases hty; exact gb2_) (by decide +kernel : decode cX13_readOwes 29 = .ok (.ireturn, 1))
  · refine re_icmp_ne_t (pc := 21) 30 (by decide +kernel : decode cX13_readOwes 21 = .ok (.if_icmp .ne 9, 3)) (by decide) g11_ ?_
    refine re_aloadn (pc := 30) 1 (by decide +kernel : decode cX13_readOwes 30 = .ok (.aload_n 0, 1)) rfl ?_
    obtain ⟨u12_, g13_, h⟩ := rv_b_e h
    obtain ⟨S15_, g16_, h⟩ := rv_b_e h
    have m14_ := metX13_go n S a0 _ g16_
    have z17_ : rv_same S S15_ := m14_.sh rfl
    refine re_cV (pc := 31) [] m14_ (rv_okl.k z17_) (rv_up.sh z17_) (by decide) (rv_ck_e g13_) ⟨by decide, rfl⟩ (Nat.le_of_ble_eq_true rfl) lVX13_181 rfl (by decide +kernel : decode cX13_readOwes 31 = .ok (.invokevirtual 181, 3)) ?_
    refine re_aloadn (pc := 34) 1 (by decide +kernel : decode cX13_readOwes 34 = .ok (.aload_n 0, 1)) rfl ?_
    obtain ⟨u18_, g19_, h⟩ := rv_b_e h
    obtain ⟨x21_, S22_, g23_, h⟩ := rv_bp_e h
    have m20_ := metX13_isToldWho n S15_ a0 _ _ g23_
    have z24_ : rv_same S15_ S22_ := m20_.sh rfl
    refine re_cV (pc := 35) [] m20_ (rv_okl.k z24_) (rv_up.sh z24_) (by decide) (rv_ck_e g19_) ⟨by decide, rfl⟩ (Nat.le_of_ble_eq_true rfl) lVX13_219 rfl (by decide +kernel : decode cX13_readOwes 35 = .ok (.invokevirtual 219, 3)) ?_
    rcases rv_if_e h with ⟨g25_, h⟩ | ⟨g25_, h⟩
    · refine re_if_ne_f (pc := 38) 43 (by decide +kernel : decode cX13_readOwes 38 = .ok (.ifCond .ne 5, 3)) (by decide) g25_ ?_
      refine re_iconst (pc := 41) (0 : Int32) (by decide +kernel : decode cX13_readOwes 41 = .ok (.iconst 0, 1)) (by decide) ?_
      cases h
      exact re_iret (fun ty hty => by cases hty; rfl) (by decide +kernel : decode cX13_readOwes 42 = .ok (.ireturn, 1))
    · refine re_if_ne_t (pc := 38) 43 (by decide +kernel : decode cX13_readOwes 38 = .ok (.ifCond .ne 5, 3)) (by decide) g25_ ?_
      refine re_aloadn (pc := 43) 1 (by decide +kernel : decode cX13_readOwes 43 = .ok (.aload_n 0, 1)) rfl ?_
      obtain ⟨a26_, g27_, h⟩ := rv_b_e h
      refine re_gR (pc := 44) g27_ lfX13_16 rfl (by decide +kernel : decode cX13_readOwes 44 = .ok (.getfield 16, 3)) ?_
      refine re_iloadn (pc := 47) 0 (by decide +kernel : decode cX13_readOwes 47 = .ok (.iload_n 1, 1)) rfl ?_
      refine re_aloadn (pc := 48) 1 (by decide +kernel : decode cX13_readOwes 48 = .ok (.aload_n 0, 1)) rfl ?_
      obtain ⟨x28_, g29_, h⟩ := rv_b_e h
      refine re_gI (pc := 49) g29_ lfX13_174 rfl (by decide +kernel : decode cX13_readOwes 49 = .ok (.getfield 174, 3)) ?_
      obtain ⟨S30_, g31_, h⟩ := rv_b_e h
      refine re_uI (pc := 52) g31_ (by decide +kernel : decode cX13_readOwes 52 = .ok (.iastore, 1)) ?_
      refine re_aloadn (pc := 53) 1 (by decide +kernel : decode cX13_readOwes 53 = .ok (.aload_n 0, 1)) rfl ?_
      obtain ⟨u32_, g33_, h⟩ := rv_b_e h
      obtain ⟨S35_, g36_, h⟩ := rv_b_e h
      have m34_ := metX13_go n S30_ a0 _ g36_
      have z37_ : rv_same S30_ S35_ := m34_.sh rfl
      refine re_cV (pc := 54) [] m34_ (rv_okl.k z37_) (rv_up.sh z37_) (by decide) (rv_ck_e g33_) ⟨by decide, rfl⟩ (Nat.le_of_ble_eq_true rfl) lVX13_181 rfl (by decide +kernel : decode cX13_readOwes 54 = .ok (.invokevirtual 181, 3)) ?_
      refine re_aloadn (pc := 57) 1 (by decide +kernel : decode cX13_readOwes 57 = .ok (.aload_n 0, 1)) rfl ?_
      obtain ⟨u38_, g39_, h⟩ := rv_b_e h
      obtain ⟨x41_, S42_, g43_, h⟩ := rv_bp_e h
      have m40_ := metX13_isToldWho n S35_ a0 _ _ g43_
      have z44_ : rv_same S35_ S42_ := m40_.sh rfl
      refine re_cV (pc := 58) [] m40_ (rv_okl.k z44_) (rv_up.sh z44_) (by decide) (rv_ck_e g39_) ⟨by decide, rfl⟩ (Nat.le_of_ble_eq_true rfl) lVX13_219 rfl (by decide +kernel : decode cX13_readOwes 58 = .ok (.invokevirtual 219, 3)) ?_
      rcases rv_if_e h with ⟨g45_, h⟩ | ⟨g45_, h⟩
      · refine re_if_ne_f (pc := 61) 66 (by decide +kernel : decode cX13_readOwes 61 = .ok (.ifCond .ne 5, 3)) (by decide) g45_ ?_
        refine re_iconst (pc := 64) (0 : Int32) (by decide +kernel : decode cX13_readOwes 64 = .ok (.iconst 0, 1)) (by decide) ?_
        cases h
        exact re_iret (fun ty hty => by cases hty; rfl) (by decide +kernel : decode cX13_readOwes 65 = .ok (.ireturn, 1))
      · refine re_if_ne_t (pc := 61) 66 (by decide +kernel : decode cX13_readOwes 61 = .ok (.ifCond .ne 5, 3)) (by decide) g45_ ?_
        refine re_aloadn (pc := 66) 1 (by decide +kernel : decode cX13_readOwes 66 = .ok (.aload_n 0, 1)) rfl ?_
        obtain ⟨x46_, g47_, h⟩ := rv_b_e h
        refine re_gI (pc := 67) g47_ lfX13_174 rfl (by decide +kernel : decode cX13_readOwes 67 = .ok (.getfield 174, 3)) ?_
        refine re_aloadn (pc := 70) 1 (by decide +kernel : decode cX13_readOwes 70 = .ok (.aload_n 0, 1)) rfl ?_
        obtain ⟨a48_, g49_, h⟩ := rv_b_e h
        refine re_gR (pc := 71) g49_ lfX13_16 rfl (by decide +kernel : decode cX13_readOwes 71 = .ok (.getfield 16, 3)) ?_
        refine re_iloadn (pc := 74) 0 (by decide +kernel : decode cX13_readOwes 74 = .ok (.iload_n 1, 1)) rfl ?_
        obtain ⟨x50_, g51_, h⟩ := rv_b_e h
        refine re_aI (pc := 75) g51_ (by decide +kernel : decode cX13_readOwes 75 = .ok (.iaload, 1)) ?_
        rcases rv_if_e h with ⟨g52_, h⟩ | ⟨g52_, h⟩
        · refine re_icmp_ne_f (pc := 76) 85 (by decide +kernel : decode cX13_readOwes 76 = .ok (.if_icmp .ne 9, 3)) (by decide) g52_ ?_
          refine re_aloadn (pc := 79) 1 (by decide +kernel : decode cX13_readOwes 79 = .ok (.aload_n 0, 1)) rfl ?_
          refine re_iconst (pc := 80) (3 : Int32) (by decide +kernel : decode cX13_readOwes 80 = .ok (.iconst 3, 1)) (by decide) ?_
          obtain ⟨u89_, g90_, h⟩ := rv_b_e h
          obtain ⟨x92_, S93_, g94_, h⟩ := rv_bp_e h
          have m91_ := metX13_bad n S42_ a0 (3 : Int32) _ _ g94_
          have z95_ : rv_same S42_ S93_ := m91_.sh rfl
          refine re_cV (pc := 81) [.int (3 : Int32)] m91_ (rv_okl.k z95_) (rv_up.sh z95_) (by decide) (rv_ck_e g90_) ⟨by decide, rfl⟩ (Nat.le_of_ble_eq_true rfl) lVX13_167 rfl (by decide +kernel : decode cX13_readOwes 81 = .ok (.invokevirtual 167, 3)) ?_
          obtain ⟨b_, gb_, h⟩ := rv_b_e h
          obtain ⟨gb1_, gb2_⟩ := rv_bo_e gb_
          refine re_nI (pc := 84) gb1_ ?_
          cases h
          exact re_iret (fun ty hty => by cases hty; exact gb2_) (by decide +kernel : decode cX13_readOwes 84 = .ok (.ireturn, 1))
        · refine re_icmp_ne_t (pc := 76) 85 (by decide +kernel : decode cX13_readOwes 76 = .ok (.if_icmp .ne 9, 3)) (by decide) g52_ ?_
          refine re_aloadn (pc := 85) 1 (by decide +kernel : decode cX13_readOwes 85 = .ok (.aload_n 0, 1)) rfl ?_
          obtain ⟨a53_, g54_, h⟩ := rv_b_e h
          refine re_gR (pc := 86) g54_ lfX13_16 rfl (by decide +kernel : decode cX13_readOwes 86 = .ok (.getfield 16, 3)) ?_
          refine re_iloadn (pc := 89) 0 (by decide +kernel : decode cX13_readOwes 89 = .ok (.iload_n 1, 1)) rfl ?_
          refine re_iconst (pc := 90) (1 : Int32) (by decide +kernel : decode cX13_readOwes 90 = .ok (.iconst 1, 1)) (by decide) ?_
          refine re_iadd (pc := 91) (by decide +kernel : decode cX13_readOwes 91 = .ok (.iadd, 1)) ?_
          refine re_aloadn (pc := 92) 1 (by decide +kernel : decode cX13_readOwes 92 = .ok (.aload_n 0, 1)) rfl ?_
          obtain ⟨x55_, g56_, h⟩ := rv_b_e h
          refine re_gI (pc := 93) g56_ lfX13_174 rfl (by decide +kernel : decode cX13_readOwes 93 = .ok (.getfield 174, 3)) ?_
          obtain ⟨S57_, g58_, h⟩ := rv_b_e h
          refine re_uI (pc := 96) g58_ (by decide +kernel : decode cX13_readOwes 96 = .ok (.iastore, 1)) ?_
          refine re_aloadn (pc := 97) 1 (by decide +kernel : decode cX13_readOwes 97 = .ok (.aload_n 0, 1)) rfl ?_
          obtain ⟨u59_, g60_, h⟩ := rv_b_e h
          obtain ⟨S62_, g63_, h⟩ := rv_b_e h
          have m61_ := metX13_go n S57_ a0 _ g63_
          have z64_ : rv_same S57_ S62_ := m61_.sh rfl
          refine re_cV (pc := 98) [] m61_ (rv_okl.k z64_) (rv_up.sh z64_) (by decide) (rv_ck_e g60_) ⟨by decide, rfl⟩ (Nat.le_of_ble_eq_true rfl) lVX13_181 rfl (by decide +kernel : decode cX13_readOwes 98 = .ok (.invokevirtual 181, 3)) ?_
          refine re_aloadn (pc := 101) 1 (by decide +kernel : decode cX13_readOwes 101 = .ok (.aload_n 0, 1)) rfl ?_
          refine re_iconst (pc := 102) (1 : Int32) (by decide +kernel : decode cX13_readOwes 102 = .ok (.iconst 1, 1)) (by decide) ?_
          refine re_sipush (pc := 103) (999 : Int32) (by decide +kernel : decode cX13_readOwes 103 = .ok (.sipush 999, 3)) (by decide) ?_
          obtain ⟨u65_, g66_, h⟩ := rv_b_e h
          obtain ⟨x68_, S69_, g70_, h⟩ := rv_bp_e h
          have m67_ := metX13_readNumber n S62_ a0 (1 : Int32) (999 : Int32) _ _ g70_
          have z71_ : rv_same S62_ S69_ := m67_.sh rfl
          refine re_cV (pc := 106) [.int (1 : Int32), .int (999 : Int32)] m67_ (rv_okl.k z71_) (rv_up.sh z71_) (by decide) (rv_ck_e g66_) ⟨by decide, rfl⟩ (Nat.le_of_ble_eq_true rfl) lVX13_216 rfl (by decide +kernel : decode cX13_readOwes 106 = .ok (.invokevirtual 216, 3)) ?_
          rcases rv_if_e h with ⟨g72_, h⟩ | ⟨g72_, h⟩
          · refine re_if_ne_f (pc := 109) 114 (by decide +kernel : decode cX13_readOwes 109 = .ok (.ifCond .ne 5, 3)) (by decide) g72_ ?_
            refine re_iconst (pc := 112) (0 : Int32) (by decide +kernel : decode cX13_readOwes 112 = .ok (.iconst 0, 1)) (by decide) ?_
            cases h
            exact re_iret (fun ty hty => by cases hty; rfl) (by decide +kernel : decode cX13_readOwes 113 = .ok (.ireturn, 1))
          · refine re_if_ne_t (pc := 109) 114 (by decide +kernel : decode cX13_readOwes 109 = .ok (.ifCond .ne 5, 3)) (by decide) g72_ ?_
            refine re_aloadn (pc := 114) 1 (by decide +kernel : decode cX13_readOwes 114 = .ok (.aload_n 0, 1)) rfl ?_
            obtain ⟨a73_, g74_, h⟩ := rv_b_e h
            refine re_gR (pc := 115) g74_ lfX13_16 rfl (by decide +kernel : decode cX13_readOwes 115 = .ok (.getfield 16, 3)) ?_
            refine re_iloadn (pc := 118) 0 (by decide +kernel : decode cX13_readOwes 118 = .ok (.iload_n 1, 1)) rfl ?_
            refine re_iconst (pc := 119) (2 : Int32) (by decide +kernel : decode cX13_readOwes 119 = .ok (.iconst 2, 1)) (by decide) ?_
            refine re_iadd (pc := 120) (by decide +kernel : decode cX13_readOwes 120 = .ok (.iadd, 1)) ?_
            refine re_aloadn (pc := 121) 1 (by decide +kernel : decode cX13_readOwes 121 = .ok (.aload_n 0, 1)) rfl ?_
            obtain ⟨x75_, g76_, h⟩ := rv_b_e h
            refine re_gI (pc := 122) g76_ lfX13_174 rfl (by decide +kernel : decode cX13_readOwes 122 = .ok (.getfield 174, 3)) ?_
            obtain ⟨S77_, g78_, h⟩ := rv_b_e h
            refine re_uI (pc := 125) g78_ (by decide +kernel : decode cX13_readOwes 125 = .ok (.iastore, 1)) ?_
            refine re_aloadn (pc := 126) 1 (by decide +kernel : decode cX13_readOwes 126 = .ok (.aload_n 0, 1)) rfl ?_
            obtain ⟨a79_, g80_, h⟩ := rv_b_e h
            refine re_gR (pc := 127) g80_ lfX13_16 rfl (by decide +kernel : decode cX13_readOwes 127 = .ok (.getfield 16, 3)) ?_
            refine re_iloadn (pc := 130) 0 (by decide +kernel : decode cX13_readOwes 130 = .ok (.iload_n 1, 1)) rfl ?_
            refine re_iconst (pc := 131) (3 : Int32) (by decide +kernel : decode cX13_readOwes 131 = .ok (.iconst 3, 1)) (by decide) ?_
            refine re_iadd (pc := 132) (by decide +kernel : decode cX13_readOwes 132 = .ok (.iadd, 1)) ?_
            refine re_iconst (pc := 133) (0 : Int32) (by decide +kernel : decode cX13_readOwes 133 = .ok (.iconst 0, 1)) (by decide) ?_
            obtain ⟨S81_, g82_, h⟩ := rv_b_e h
            refine re_uI (pc := 134) g82_ (by decide +kernel : decode cX13_readOwes 134 = .ok (.iastore, 1)) ?_
            refine re_aloadn (pc := 135) 1 (by decide +kernel : decode cX13_readOwes 135 = .ok (.aload_n 0, 1)) rfl ?_
            obtain ⟨a83_, g84_, h⟩ := rv_b_e h
            refine re_gR (pc := 136) g84_ lfX13_16 rfl (by decide +kernel : decode cX13_readOwes 136 = .ok (.getfield 16, 3)) ?_
            refine re_iconst (pc := 139) (2 : Int32) (by decide +kernel : decode cX13_readOwes 139 = .ok (.iconst 2, 1)) (by decide) ?_
            refine re_dup2 (pc := 140) (by decide +kernel : decode cX13_readOwes 140 = .ok (.dup2, 1)) rfl rfl ?_
            obtain ⟨x85_, g86_, h⟩ := rv_b_e h
            refine re_aI (pc := 141) g86_ (by decide +kernel : decode cX13_readOwes 141 = .ok (.iaload, 1)) ?_
            refine re_iconst (pc := 142) (1 : Int32) (by decide +kernel : decode cX13_readOwes 142 = .ok (.iconst 1, 1)) (by decide) ?_
            refine re_iadd (pc := 143) (by decide +kernel : decode cX13_readOwes 143 = .ok (.iadd, 1)) ?_
            obtain ⟨S87_, g88_, h⟩ := rv_b_e h
            refine re_uI (pc := 144) g88_ (by decide +kernel : decode cX13_readOwes 144 = .ok (.iastore, 1)) ?_
            refine re_iconst (pc := 145) (1 : Int32) (by decide +kernel : decode cX13_readOwes 145 = .ok (.iconst 1, 1)) (by decide) ?_
            cases h
            exact re_iret (fun ty hty => by cases hty; rfl) (by decide +kernel : decode cX13_readOwes 146 = .ok (.ireturn, 1))
theorem metX13_readOwes (n : Nat) (S : rvS) (a0 : Nat) (r : Int32) (S' : rvS) (h : fnX13_readOwes n S a0 = some (r, S')) : rv_Met yX13_readOwes mX13_readOwes 4 [.ref a0] S (some (.int r)) S' := rv_Met.of ⟨by decide +kernel, rfl, (fun z => by first | rfl | cases z), rfl⟩ (Nat.le_of_ble_eq_true rfl) rfl (eX13_readOwes_in n S a0 r S' h)
noncomputable def fnX13_readStranger (n : Nat) (S : rvS) (a0 : Nat) : Option (Int32 × rvS) :=
  (rv_ck S 11 a0).bind fun u1_ =>
  (fnX13_go n S a0).bind fun S4_ =>
  (rv_ck S4_ 11 a0).bind fun u7_ =>
  rv_bp (fnX13_isToldWho n S4_ a0) fun x10_ S11_ =>
  if x10_ = 0 then (
    some ((0 : Int32), S11_))
  else (
    (rv_gR S11_ 11 a0 15).bind fun a15_ =>
    (rv_gI S11_ 11 a0 13).bind fun x17_ =>
    (rv_aI S11_ 0 a15_ (((8 : Int32) + ((5 : Int32) * x17_)) + (3 : Int32))).bind fun x19_ =>
    if x19_ ≤ 0 then (
      (rv_gR S11_ 11 a0 15).bind fun a22_ =>
      (rv_gI S11_ 11 a0 13).bind fun x24_ =>
      (rv_uI S11_ a22_ (((8 : Int32) + ((5 : Int32) * x24_)) + (3 : Int32)) (1 : Int32)).bind fun S26_ =>
      (rv_ck S26_ 11 a0).bind fun u28_ =>
      (fnX13_go n S26_ a0).bind fun S31_ =>
      some ((1 : Int32), S31_))
    else (
      (rv_ck S11_ 11 a0).bind fun u34_ =>
      rv_bp (fnX13_bad n S11_ a0 (3 : Int32)) fun x37_ S38_ =>
      (rv_bo x37_).bind fun b_ =>
      some (b_, S38_)))
set_option maxRecDepth 20000 in
set_option maxHeartbeats 4000000 in
theorem eX13_readStranger_in (n : Nat) (S : rvS) (a0 : Nat) (r : Int32) (S' : rvS) (h : fnX13_readStranger n S a0 = some (r, S')) : rv_Ev mX13_readStranger 4 0 [(0, .ref a0)] [] S (some (.int r)) S' := by
  unfold fnX13_readStranger at h
  refine re_aloadn (pc := 0) 0 (by decide +kernel : decode cX13_readStranger 0 = .ok (.aload_n 0, 1)) rfl ?_
  obtain ⟨u1_, g2_, h⟩ := rv_b_e h
  obtain ⟨S4_, g5_, h⟩ := rv_b_e h
  have m3_ := metX13_go n S a0 _ g5_
  have z6_ : rv_same S S4_ := m3_.sh rfl
  refine re_cV (pc := 1) [] m3_ (rv_okl.k z6_) (rv_up.sh z6_) (by decide) (rv_ck_e g2_) ⟨by decide, rfl⟩ (Nat.le_of_ble_eq_true rfl) lVX13_181 rfl (by decide +kernel : decode cX13_readStranger 1 = .ok (.invokevirtual 181, 3)) ?_
  refine re_aloadn (pc := 4) 0 (by decide +kernel : decode cX13_readStranger 4 = .ok (.aload_n 0, 1)) rfl ?_
  obtain ⟨u7_, g8_, h⟩ := rv_b_e h
  obtain ⟨x10_, S11_, g12_, h⟩ := rv_bp_e h
  have m9_ := metX13_isToldWho n S4_ a0 _ _ g12_
  have z13_ : rv_same S4_ S11_ := m9_.sh rfl
  refine re_cV (pc := 5) [] m9_ (rv_okl.k z13_) (rv_up.sh z13_) (by decide) (rv_ck_e g8_) ⟨by decide, rfl⟩ (Nat.le_of_ble_eq_true rfl) lVX13_219 rfl (by decide +kernel : decode cX13_readStranger 5 = .ok (.invokevirtual 219, 3)) ?_
  rcases rv_if_e h with ⟨g14_, h⟩ | ⟨g14_, h⟩
  · refine re_if_ne_f (pc := 8) 13 (by decide +kernel : decode cX13_readStranger 8 = .ok (.ifCond .ne 5, 3)) (by decide) g14_ ?_
    refine re_iconst (pc := 11) (0 : Int32) (by decide +kernel : decode cX13_readStranger 11 = .ok (.iconst 0, 1)) (by decide) ?_
    cases h
    exact re_iret (fun ty hty => by cases hty; rfl) (by decide +kernel : decode cX13_readStranger 12 = .ok (.ireturn, 1))
  · refine re_if_ne_t (pc := 8) 13 (by decide +kernel : decode cX13_readStranger 8 = .ok (.ifCond .ne 5, 3)) (by decide) g14_ ?_
    refine re_aloadn (pc := 13) 0 (by decide +kernel : decode cX13_readStranger 13 = .ok (.aload_n 0, 1)) rfl ?_
    obtain ⟨a15_, g16_, h⟩ := rv_b_e h
    refine re_gR (pc := 14) g16_ lfX13_16 rfl (by decide +kernel : decode cX13_readStranger 14 = .ok (.getfield 16, 3)) ?_
    refine re_bipush (pc := 17) (8 : Int32) (by decide +kernel : decode cX13_readStranger 17 = .ok (.bipush 8, 2)) (by decide) ?_
    refine re_iconst (pc := 19) (5 : Int32) (by decide +kernel : decode cX13_readStranger 19 = .ok (.iconst 5, 1)) (by decide) ?_
    refine re_aloadn (pc := 20) 0 (by decide +kernel : decode cX13_readStranger 20 = .ok (.aload_n 0, 1)) rfl ?_
    obtain ⟨x17_, g18_, h⟩ := rv_b_e h
    refine re_gI (pc := 21) g18_ lfX13_174 rfl (by decide +kernel : decode cX13_readStranger 21 = .ok (.getfield 174, 3)) ?_
    refine re_imul (pc := 24) (by decide +kernel : decode cX13_readStranger 24 = .ok (.imul, 1)) ?_
    refine re_iadd (pc := 25) (by decide +kernel : decode cX13_readStranger 25 = .ok (.iadd, 1)) ?_
    refine re_iconst (pc := 26) (3 : Int32) (by decide +kernel : decode cX13_readStranger 26 = .ok (.iconst 3, 1)) (by decide) ?_
    refine re_iadd (pc := 27) (by decide +kernel : decode cX13_readStranger 27 = .ok (.iadd, 1)) ?_
    obtain ⟨x19_, g20_, h⟩ := rv_b_e h
    refine re_aI (pc := 28) g20_ (by decide +kernel : decode cX13_readStranger 28 = .ok (.iaload, 1)) ?_
    rcases rv_if_e h with ⟨g21_, h⟩ | ⟨g21_, h⟩
    · refine re_if_le_t (pc := 29) 38 (by decide +kernel : decode cX13_readStranger 29 = .ok (.ifCond .le 9, 3)) (by decide) g21_ ?_
      refine re_aloadn (pc := 38) 0 (by decide +kernel : decode cX13_readStranger 38 = .ok (.aload_n 0, 1)) rfl ?_
      obtain ⟨a22_, g23_, h⟩ := rv_b_e h
      refine re_gR (pc := 39) g23_ lfX13_16 rfl (by decide +kernel : decode cX13_readStranger 39 = .ok (.getfield 16, 3)) ?_
      refine re_bipush (pc := 42) (8 : Int32) (by decide +kernel : decode cX13_readStranger 42 = .ok (.bipush 8, 2)) (by decide) ?_
      refine re_iconst (pc := 44) (5 : Int32) (by decide +kernel : decode cX13_readStranger 44 = .ok (.iconst 5, 1)) (by decide) ?_
      refine re_aloadn (pc := 45) 0 (by decide +kernel : decode cX13_readStranger 45 = .ok (.aload_n 0, 1)) rfl ?_
      obtain ⟨x24_, g25_, h⟩ := rv_b_e h
      refine re_gI (pc := 46) g25_ lfX13_174 rfl (by decide +kernel : decode cX13_readStranger 46 = .ok (.getfield 174, 3)) ?_
      refine re_imul (pc := 49) (by decide +kernel : decode cX13_readStranger 49 = .ok (.imul, 1)) ?_
      refine re_iadd (pc := 50) (by decide +kernel : decode cX13_readStranger 50 = .ok (.iadd, 1)) ?_
      refine re_iconst (pc := 51) (3 : Int32) (by decide +kernel : decode cX13_readStranger 51 = .ok (.iconst 3, 1)) (by decide) ?_
      refine re_iadd (pc := 52) (by decide +kernel : decode cX13_readStranger 52 = .ok (.iadd, 1)) ?_
      refine re_iconst (pc := 53) (1 : Int32) (by decide +kernel : decode cX13_readStranger 53 = .ok (.iconst 1, 1)) (by decide) ?_
      obtain ⟨S26_, g27_, h⟩ := rv_b_e h
      refine re_uI (pc := 54) g27_ (by decide +kernel : decode cX13_readStranger 54 = .ok (.iastore, 1)) ?_
      refine re_aloadn (pc := 55) 0 (by decide +kernel : decode cX13_readStranger 55 = .ok (.aload_n 0, 1)) rfl ?_
      obtain ⟨u28_, g29_, h⟩ := rv_b_e h
      obtain ⟨S31_, g32_, h⟩ := rv_b_e h
      have m30_ := metX13_go n S26_ a0 _ g32_
      have z33_ : rv_same S26_ S31_ := m30_.sh rfl
      refine re_cV (pc := 56) [] m30_ (rv_okl.k z33_) (rv_up.sh z33_) (by decide) (rv_ck_e g29_) ⟨by decide, rfl⟩ (Nat.le_of_ble_eq_true rfl) lVX13_181 rfl (by decide +kernel : decode cX13_readStranger 56 = .ok (.invokevirtual 181, 3)) ?_
      refine re_iconst (pc := 59) (1 : Int32) (by decide +kernel : decode cX13_readStranger 59 = .ok (.iconst 1, 1)) (by decide) ?_
      cases h
      exact re_iret (fun ty hty => by cases hty; rfl) (by decide +kernel : decode cX13_readStranger 60 = .ok (.ireturn, 1))
    · refine re_if_le_f (pc := 29) 38 (by decide +kernel : decode cX13_readStranger 29 = .ok (.ifCond .le 9, 3)) (by decide) g21_ ?_
      refine re_aloadn (pc := 32) 0 (by decide +kernel : decode cX13_readStranger 32 = .ok (.aload_n 0, 1)) rfl ?_
      refine re_iconst (pc := 33) (3 : Int32) (by decide +kernel : decode cX13_readStranger 33 = .ok (.iconst 3, 1)) (by decide) ?_
      obtain ⟨u34_, g35_, h⟩ := rv_b_e h
      obtain ⟨x37_, S38_, g39_, h⟩ := rv_bp_e h
      have m36_ := metX13_bad n S11_ a0 (3 : Int32) _ _ g39_
      have z40_ : rv_same S11_ S38_ := m36_.sh rfl
      refine re_cV (pc := 34) [.int (3 : Int32)] m36_ (rv_okl.k z40_) (rv_up.sh z40_) (by decide) (rv_ck_e g35_) ⟨by decide, rfl⟩ (Nat.le_of_ble_eq_true rfl) lVX13_167 rfl (by decide +kernel : decode cX13_readStranger 34 = .ok (.invokevirtual 167, 3)) ?_
      obtain ⟨b_, gb_, h⟩ := rv_b_e h
      obtain ⟨gb1_, gb2_⟩ := rv_bo_e gb_
      refine re_nI (pc := 37) gb1_ ?_
      cases h
      exact re_iret (fun ty hty => by cases hty; exact gb2_) (by decide +kernel : decode cX13_readStranger 37 = .ok (.ireturn, 1))
theorem metX13_readStranger (n : Nat) (S : rvS) (a0 : Nat) (r : Int32) (S' : rvS) (h : fnX13_readStranger n S a0 = some (r, S')) : rv_Met yX13_readStranger mX13_readStranger 4 [.ref a0] S (some (.int r)) S' := rv_Met.of ⟨by decide +kernel, rfl, (fun z => by first | rfl | cases z), rfl⟩ (Nat.le_of_ble_eq_true rfl) rfl (eX13_readStranger_in n S a0 r S' h)
noncomputable def cX13_readDead_50 (n : Nat) (S : rvS) (a0 : Nat) (t0 : Int32) : Option (Int32 × rvS) :=
  if t0 = (-1 : Int32) then (
    (rv_ck S 11 a0).bind fun u12_ =>
    rv_bp (fnX13_bad n S a0 (1 : Int32)) fun x15_ S16_ =>
    (rv_bo x15_).bind fun b_ =>
    some (b_, S16_))
  else (
    (rv_gR S 11 a0 15).bind fun a2_ =>
    (rv_uI S a2_ (5 : Int32) t0).bind fun S4_ =>
    (rv_ck S4_ 11 a0).bind fun u6_ =>
    (fnX13_go n S4_ a0).bind fun S9_ =>
    some ((1 : Int32), S9_))
set_option maxRecDepth 20000 in
set_option maxHeartbeats 4000000 in
theorem eX13_readDead_50 (n : Nat) (S : rvS) (a0 : Nat) (t0 : Int32) (r : Int32) (S' : rvS) (h : cX13_readDead_50 n S a0 t0 = some (r, S')) : rv_Ev mX13_readDead 3 50 [(0, .ref a0)] [.int t0] S (some (.int r)) S' := by
  unfold cX13_readDead_50 at h
  refine re_istoren (pc := 50) (lv1 := [(1, .int t0), (0, .ref a0)]) (by decide +kernel : decode cX13_readDead 50 = .ok (.istore_n 1, 1)) rfl (by decide) rfl ?_
  refine re_iloadn (pc := 51) 0 (by decide +kernel : decode cX13_readDead 51 = .ok (.iload_n 1, 1)) rfl ?_
  refine re_iconst (pc := 52) (-1 : Int32) (by decide +kernel : decode cX13_readDead 52 = .ok (.iconst (-1), 1)) (by decide) ?_
  rcases rv_if_e h with ⟨g1_, h⟩ | ⟨g1_, h⟩
  · refine re_icmp_ne_f (pc := 53) 62 (by decide +kernel : decode cX13_readDead 53 = .ok (.if_icmp .ne 9, 3)) (by decide) g1_ ?_
    refine re_aloadn (pc := 56) 1 (by decide +kernel : decode cX13_readDead 56 = .ok (.aload_n 0, 1)) rfl ?_
    refine re_iconst (pc := 57) (1 : Int32) (by decide +kernel : decode cX13_readDead 57 = .ok (.iconst 1, 1)) (by decide) ?_
    obtain ⟨u12_, g13_, h⟩ := rv_b_e h
    obtain ⟨x15_, S16_, g17_, h⟩ := rv_bp_e h
    have m14_ := metX13_bad n S a0 (1 : Int32) _ _ g17_
    have z18_ : rv_same S S16_ := m14_.sh rfl
    refine re_cV (pc := 58) [.int (1 : Int32)] m14_ (rv_okl.k z18_) (rv_up.sh z18_) (by decide) (rv_ck_e g13_) ⟨by decide, rfl⟩ (Nat.le_of_ble_eq_true rfl) lVX13_167 rfl (by decide +kernel : decode cX13_readDead 58 = .ok (.invokevirtual 167, 3)) ?_
    obtain ⟨b_, gb_, h⟩ := rv_b_e h
    obtain ⟨gb1_, gb2_⟩ := rv_bo_e gb_
    refine re_nI (pc := 61) gb1_ ?_
    cases h
    exact re_iret (fun ty hty => by cases hty; exact gb2_) (by decide +kernel : decode cX13_readDead 61 = .ok (.ireturn, 1))
  · refine re_icmp_ne_t (pc := 53) 62 (by decide +kernel : decode cX13_readDead 53 = .ok (.if_icmp .ne 9, 3)) (by decide) g1_ ?_
    refine re_aloadn (pc := 62) 1 (by decide +kernel : decode cX13_readDead 62 = .ok (.aload_n 0, 1)) rfl ?_
    obtain ⟨a2_, g3_, h⟩ := rv_b_e h
    refine re_gR (pc := 63) g3_ lfX13_16 rfl (by decide +kernel : decode cX13_readDead 63 = .ok (.getfield 16, 3)) ?_
    refine re_iconst (pc := 66) (5 : Int32) (by decide +kernel : decode cX13_readDead 66 = .ok (.iconst 5, 1)) (by decide) ?_
    refine re_iloadn (pc := 67) 0 (by decide +kernel : decode cX13_readDead 67 = .ok (.iload_n 1, 1)) rfl ?_
    obtain ⟨S4_, g5_, h⟩ := rv_b_e h
    refine re_uI (pc := 68) g5_ (by decide +kernel : decode cX13_readDead 68 = .ok (.iastore, 1)) ?_
    refine re_aloadn (pc := 69) 1 (by decide +kernel : decode cX13_readDead 69 = .ok (.aload_n 0, 1)) rfl ?_
    obtain ⟨u6_, g7_, h⟩ := rv_b_e h
    obtain ⟨S9_, g10_, h⟩ := rv_b_e h
    have m8_ := metX13_go n S4_ a0 _ g10_
    have z11_ : rv_same S4_ S9_ := m8_.sh rfl
    refine re_cV (pc := 70) [] m8_ (rv_okl.k z11_) (rv_up.sh z11_) (by decide) (rv_ck_e g7_) ⟨by decide, rfl⟩ (Nat.le_of_ble_eq_true rfl) lVX13_181 rfl (by decide +kernel : decode cX13_readDead 70 = .ok (.invokevirtual 181, 3)) ?_
    refine re_iconst (pc := 73) (1 : Int32) (by decide +kernel : decode cX13_readDead 73 = .ok (.iconst 1, 1)) (by decide) ?_
    cases h
    exact re_iret (fun ty hty => by cases hty; rfl) (by decide +kernel : decode cX13_readDead 74 = .ok (.ireturn, 1))
noncomputable def fnX13_readDead (n : Nat) (S : rvS) (a0 : Nat) : Option (Int32 × rvS) :=
  (rv_ck S 11 a0).bind fun u1_ =>
  rv_bp (fnX13_readOnce n S a0 (2 : Int32)) fun x4_ S5_ =>
  if x4_ = 0 then (
    some ((0 : Int32), S5_))
  else (
    (rv_ck S5_ 11 a0).bind fun u9_ =>
    (fnX13_isWord n S5_ a0 (8 : Int32)).bind fun x12_ =>
    if x12_ = 0 then (
      (rv_ck S5_ 11 a0).bind fun u15_ =>
      (fnX13_isWord n S5_ a0 (9 : Int32)).bind fun x18_ =>
      if x18_ = 0 then (
        (rv_ck S5_ 11 a0).bind fun u21_ =>
        (fnX13_isWord n S5_ a0 (10 : Int32)).bind fun x24_ =>
        if x24_ = 0 then (
          cX13_readDead_50 n S5_ a0 (-1 : Int32))
        else (
          cX13_readDead_50 n S5_ a0 (2 : Int32)))
      else (
        cX13_readDead_50 n S5_ a0 (1 : Int32)))
    else (
      cX13_readDead_50 n S5_ a0 (0 : Int32)))
set_option maxRecDepth 20000 in
set_option maxHeartbeats 4000000 in
theorem eX13_readDead_in (n : Nat) (S : rvS) (a0 : Nat) (r : Int32) (S' : rvS) (h : fnX13_readDead n S a0 = some (r, S')) : rv_Ev mX13_readDead 3 0 [(0, .ref a0)] [] S (some (.int r)) S' := by
  unfold fnX13_readDead at h
  refine re_aloadn (pc := 0) 0 (by decide +kernel : decode cX13_readDead 0 = .ok (.aload_n 0, 1)) rfl ?_
  refine re_iconst (pc := 1) (2 : Int32) (by decide +kernel : decode cX13_readDead 1 = .ok (.iconst 2, 1)) (by decide) ?_
  obtain ⟨u1_, g2_, h⟩ := rv_b_e h
  obtain ⟨x4_, S5_, g6_, h⟩ := rv_bp_e h
  have m3_ := metX13_readOnce n S a0 (2 : Int32) _ _ g6_
  have z7_ : rv_same S S5_ := m3_.sh rfl
  refine re_cV (pc := 2) [.int (2 : Int32)] m3_ (rv_okl.k z7_) (rv_up.sh z7_) (by decide) (rv_ck_e g2_) ⟨by decide, rfl⟩ (Nat.le_of_ble_eq_true rfl) lVX13_222 rfl (by decide +kernel : decode cX13_readDead 2 = .ok (.invokevirtual 222, 3)) ?_
  rcases rv_if_e h with ⟨g8_, h⟩ | ⟨g8_, h⟩
  · refine re_if_ne_f (pc := 5) 10 (by decide +kernel : decode cX13_readDead 5 = .ok (.ifCond .ne 5, 3)) (by decide) g8_ ?_
    refine re_iconst (pc := 8) (0 : Int32) (by decide +kernel : decode cX13_readDead 8 = .ok (.iconst 0, 1)) (by decide) ?_
    cases h
    exact re_iret (fun ty hty => by cases hty; rfl) (by decide +kernel : decode cX13_readDead 9 = .ok (.ireturn, 1))
  · refine re_if_ne_t (pc := 5) 10 (by decide +kernel : decode cX13_readDead 5 = .ok (.ifCond .ne 5, 3)) (by decide) g8_ ?_
    refine re_aloadn (pc := 10) 0 (by decide +kernel : decode cX13_readDead 10 = .ok (.aload_n 0, 1)) rfl ?_
    refine re_bipush (pc := 11) (8 : Int32) (by decide +kernel : decode cX13_readDead 11 = .ok (.bipush 8, 2)) (by decide) ?_
    obtain ⟨u9_, g10_, h⟩ := rv_b_e h
    obtain ⟨x12_, g13_, h⟩ := rv_b_e h
    have m11_ := metX13_isWord n S5_ a0 (8 : Int32) _ g13_
    refine re_cV (pc := 13) [.int (8 : Int32)] m11_ (rv_okl.k ⟨rfl, rfl⟩) (rv_up.rf _ _) (by decide) (rv_ck_e g10_) ⟨by decide, rfl⟩ (Nat.le_of_ble_eq_true rfl) lVX13_225 rfl (by decide +kernel : decode cX13_readDead 13 = .ok (.invokevirtual 225, 3)) ?_
    rcases rv_if_e h with ⟨g14_, h⟩ | ⟨g14_, h⟩
    · refine re_if_eq_t (pc := 16) 23 (by decide +kernel : decode cX13_readDead 16 = .ok (.ifCond .eq 7, 3)) (by decide) g14_ ?_
      refine re_aloadn (pc := 23) 0 (by decide +kernel : decode cX13_readDead 23 = .ok (.aload_n 0, 1)) rfl ?_
      refine re_bipush (pc := 24) (9 : Int32) (by decide +kernel : decode cX13_readDead 24 = .ok (.bipush 9, 2)) (by decide) ?_
      obtain ⟨u15_, g16_, h⟩ := rv_b_e h
      obtain ⟨x18_, g19_, h⟩ := rv_b_e h
      have m17_ := metX13_isWord n S5_ a0 (9 : Int32) _ g19_
      refine re_cV (pc := 26) [.int (9 : Int32)] m17_ (rv_okl.k ⟨rfl, rfl⟩) (rv_up.rf _ _) (by decide) (rv_ck_e g16_) ⟨by decide, rfl⟩ (Nat.le_of_ble_eq_true rfl) lVX13_225 rfl (by decide +kernel : decode cX13_readDead 26 = .ok (.invokevirtual 225, 3)) ?_
      rcases rv_if_e h with ⟨g20_, h⟩ | ⟨g20_, h⟩
      · refine re_if_eq_t (pc := 29) 36 (by decide +kernel : decode cX13_readDead 29 = .ok (.ifCond .eq 7, 3)) (by decide) g20_ ?_
        refine re_aloadn (pc := 36) 0 (by decide +kernel : decode cX13_readDead 36 = .ok (.aload_n 0, 1)) rfl ?_
        refine re_bipush (pc := 37) (10 : Int32) (by decide +kernel : decode cX13_readDead 37 = .ok (.bipush 10, 2)) (by decide) ?_
        obtain ⟨u21_, g22_, h⟩ := rv_b_e h
        obtain ⟨x24_, g25_, h⟩ := rv_b_e h
        have m23_ := metX13_isWord n S5_ a0 (10 : Int32) _ g25_
        refine re_cV (pc := 39) [.int (10 : Int32)] m23_ (rv_okl.k ⟨rfl, rfl⟩) (rv_up.rf _ _) (by decide) (rv_ck_e g22_) ⟨by decide, rfl⟩ (Nat.le_of_ble_eq_true rfl) lVX13_225 rfl (by decide +kernel : decode cX13_readDead 39 = .ok (.invokevirtual 225, 3)) ?_
        rcases rv_if_e h with ⟨g26_, h⟩ | ⟨g26_, h⟩
        · refine re_if_eq_t (pc := 42) 49 (by decide +kernel : decode cX13_readDead 42 = .ok (.ifCond .eq 7, 3)) (by decide) g26_ ?_
          refine re_iconst (pc := 49) (-1 : Int32) (by decide +kernel : decode cX13_readDead 49 = .ok (.iconst (-1), 1)) (by decide) ?_
          exact eX13_readDead_50 n S5_ a0 (-1 : Int32) _ _ h
        · refine re_if_eq_f (pc := 42) 49 (by decide +kernel : decode cX13_readDead 42 = .ok (.ifCond .eq 7, 3)) (by decide) g26_ ?_
          refine re_iconst (pc := 45) (2 : Int32) (by decide +kernel : decode cX13_readDead 45 = .ok (.iconst 2, 1)) (by decide) ?_
          refine re_goto (pc := 46) 50 (by decide +kernel : decode cX13_readDead 46 = .ok (.goto 4, 3)) (by decide) ?_
          exact eX13_readDead_50 n S5_ a0 (2 : Int32) _ _ h
      · refine re_if_eq_f (pc := 29) 36 (by decide +kernel : decode cX13_readDead 29 = .ok (.ifCond .eq 7, 3)) (by decide) g20_ ?_
        refine re_iconst (pc := 32) (1 : Int32) (by decide +kernel : decode cX13_readDead 32 = .ok (.iconst 1, 1)) (by decide) ?_
        refine re_goto (pc := 33) 50 (by decide +kernel : decode cX13_readDead 33 = .ok (.goto 17, 3)) (by decide) ?_
        exact eX13_readDead_50 n S5_ a0 (1 : Int32) _ _ h
    · refine re_if_eq_f (pc := 16) 23 (by decide +kernel : decode cX13_readDead 16 = .ok (.ifCond .eq 7, 3)) (by decide) g14_ ?_
      refine re_iconst (pc := 19) (0 : Int32) (by decide +kernel : decode cX13_readDead 19 = .ok (.iconst 0, 1)) (by decide) ?_
      refine re_goto (pc := 20) 50 (by decide +kernel : decode cX13_readDead 20 = .ok (.goto 30, 3)) (by decide) ?_
      exact eX13_readDead_50 n S5_ a0 (0 : Int32) _ _ h
theorem metX13_readDead (n : Nat) (S : rvS) (a0 : Nat) (r : Int32) (S' : rvS) (h : fnX13_readDead n S a0 = some (r, S')) : rv_Met yX13_readDead mX13_readDead 3 [.ref a0] S (some (.int r)) S' := rv_Met.of ⟨by decide +kernel, rfl, (fun z => by first | rfl | cases z), rfl⟩ (Nat.le_of_ble_eq_true rfl) rfl (eX13_readDead_in n S a0 r S' h)
noncomputable def cX13_readLine_215 (n : Nat) (S : rvS) (a0 : Nat) (x1 : Int32) : Option (Int32 × rvS) :=
  if x1 = 0 then (
    some ((0 : Int32), S))
  else (
    (rv_ck S 11 a0).bind fun u2_ =>
    rv_bp (fnX13_readEnd n S a0) fun x5_ S6_ =>
    if x5_ = 0 then (
      some ((0 : Int32), S6_))
    else (
      some ((1 : Int32), S6_)))
set_option maxRecDepth 20000 in
set_option maxHeartbeats 4000000 in
theorem eX13_readLine_215 (n : Nat) (S : rvS) (a0 : Nat) (x1 : Int32) (r : Int32) (S' : rvS) (h : cX13_readLine_215 n S a0 x1 = some (r, S')) : rv_Ev mX13_readLine 5 215 [(0, .ref a0), (1, .int x1)] [] S (some (.int r)) S' := by
  unfold cX13_readLine_215 at h
  refine re_iloadn (pc := 215) 1 (by decide +kernel : decode cX13_readLine 215 = .ok (.iload_n 1, 1)) rfl ?_
  rcases rv_if_e h with ⟨g1_, h⟩ | ⟨g1_, h⟩
  · refine re_if_eq_t (pc := 216) 230 (by decide +kernel : decode cX13_readLine 216 = .ok (.ifCond .eq 14, 3)) (by decide) g1_ ?_
    refine re_iconst (pc := 230) (0 : Int32) (by decide +kernel : decode cX13_readLine 230 = .ok (.iconst 0, 1)) (by decide) ?_
    cases h
    exact re_iret (fun ty hty => by cases hty; rfl) (by decide +kernel : decode cX13_readLine 231 = .ok (.ireturn, 1))
  · refine re_if_eq_f (pc := 216) 230 (by decide +kernel : decode cX13_readLine 216 = .ok (.ifCond .eq 14, 3)) (by decide) g1_ ?_
    refine re_aloadn (pc := 219) 0 (by decide +kernel : decode cX13_readLine 219 = .ok (.aload_n 0, 1)) rfl ?_
    obtain ⟨u2_, g3_, h⟩ := rv_b_e h
    obtain ⟨x5_, S6_, g7_, h⟩ := rv_bp_e h
    have m4_ := metX13_readEnd n S a0 _ _ g7_
    have z8_ : rv_same S S6_ := m4_.sh rfl
    refine re_cV (pc := 220) [] m4_ (rv_okl.k z8_) (rv_up.sh z8_) (by decide) (rv_ck_e g3_) ⟨by decide, rfl⟩ (Nat.le_of_ble_eq_true rfl) lVX13_246 rfl (by decide +kernel : decode cX13_readLine 220 = .ok (.invokevirtual 246, 3)) ?_
    rcases rv_if_e h with ⟨g9_, h⟩ | ⟨g9_, h⟩
    · refine re_if_eq_t (pc := 223) 230 (by decide +kernel : decode cX13_readLine 223 = .ok (.ifCond .eq 7, 3)) (by decide) g9_ ?_
      refine re_iconst (pc := 230) (0 : Int32) (by decide +kernel : decode cX13_readLine 230 = .ok (.iconst 0, 1)) (by decide) ?_
      cases h
      exact re_iret (fun ty hty => by cases hty; rfl) (by decide +kernel : decode cX13_readLine 231 = .ok (.ireturn, 1))
    · refine re_if_eq_f (pc := 223) 230 (by decide +kernel : decode cX13_readLine 223 = .ok (.ifCond .eq 7, 3)) (by decide) g9_ ?_
      refine re_iconst (pc := 226) (1 : Int32) (by decide +kernel : decode cX13_readLine 226 = .ok (.iconst 1, 1)) (by decide) ?_
      refine re_goto (pc := 227) 231 (by decide +kernel : decode cX13_readLine 227 = .ok (.goto 4, 3)) (by decide) ?_
      cases h
      exact re_iret (fun ty hty => by cases hty; rfl) (by decide +kernel : decode cX13_readLine 231 = .ok (.ireturn, 1))
noncomputable def cX13_readLine_45 (n : Nat) (S : rvS) (a0 : Nat) (t0 : Int32) : Option (Int32 × rvS) :=
  if t0 = 0 then (
    cX13_readLine_215 n S a0 t0)
  else (
    (rv_gR S 11 a0 15).bind fun a2_ =>
    (rv_gI S 11 a0 13).bind fun x4_ =>
    (rv_uI S a2_ (3 : Int32) x4_).bind fun S6_ =>
    cX13_readLine_215 n S6_ a0 t0)
set_option maxRecDepth 20000 in
set_option maxHeartbeats 4000000 in
theorem eX13_readLine_45 (n : Nat) (S : rvS) (a0 : Nat) (t0 : Int32) (r : Int32) (S' : rvS) (h : cX13_readLine_45 n S a0 t0 = some (r, S')) : rv_Ev mX13_readLine 5 45 [(0, .ref a0)] [.int t0] S (some (.int r)) S' := by
  unfold cX13_readLine_45 at h
  refine re_istoren (pc := 45) (lv1 := [(1, .int t0), (0, .ref a0)]) (by decide +kernel : decode cX13_readLine 45 = .ok (.istore_n 1, 1)) rfl (by decide) rfl ?_
  refine re_iloadn (pc := 46) 0 (by decide +kernel : decode cX13_readLine 46 = .ok (.iload_n 1, 1)) rfl ?_
  rcases rv_if_e h with ⟨g1_, h⟩ | ⟨g1_, h⟩
  · refine re_if_eq_t (pc := 47) 215 (by decide +kernel : decode cX13_readLine 47 = .ok (.ifCond .eq 168, 3)) (by decide) g1_ ?_
    refine re_sub [1, 0] (lv1 := [(0, .ref a0), (1, .int t0)]) rfl ?_
    exact eX13_readLine_215 n S a0 t0 _ _ h
  · refine re_if_eq_f (pc := 47) 215 (by decide +kernel : decode cX13_readLine 47 = .ok (.ifCond .eq 168, 3)) (by decide) g1_ ?_
    refine re_aloadn (pc := 50) 1 (by decide +kernel : decode cX13_readLine 50 = .ok (.aload_n 0, 1)) rfl ?_
    obtain ⟨a2_, g3_, h⟩ := rv_b_e h
    refine re_gR (pc := 51) g3_ lfX13_16 rfl (by decide +kernel : decode cX13_readLine 51 = .ok (.getfield 16, 3)) ?_
    refine re_iconst (pc := 54) (3 : Int32) (by decide +kernel : decode cX13_readLine 54 = .ok (.iconst 3, 1)) (by decide) ?_
    refine re_aloadn (pc := 55) 1 (by decide +kernel : decode cX13_readLine 55 = .ok (.aload_n 0, 1)) rfl ?_
    obtain ⟨x4_, g5_, h⟩ := rv_b_e h
    refine re_gI (pc := 56) g5_ lfX13_174 rfl (by decide +kernel : decode cX13_readLine 56 = .ok (.getfield 174, 3)) ?_
    obtain ⟨S6_, g7_, h⟩ := rv_b_e h
    refine re_uI (pc := 59) g7_ (by decide +kernel : decode cX13_readLine 59 = .ok (.iastore, 1)) ?_
    refine re_goto (pc := 60) 215 (by decide +kernel : decode cX13_readLine 60 = .ok (.goto 155, 3)) (by decide) ?_
    refine re_sub [1, 0] (lv1 := [(0, .ref a0), (1, .int t0)]) rfl ?_
    exact eX13_readLine_215 n S6_ a0 t0 _ _ h
noncomputable def cX13_readLine_44 (n : Nat) (S : rvS) (a0 : Nat) : Option (Int32 × rvS) :=
  cX13_readLine_45 n S a0 (0 : Int32)
set_option maxRecDepth 20000 in
set_option maxHeartbeats 4000000 in
theorem eX13_readLine_44 (n : Nat) (S : rvS) (a0 : Nat) (r : Int32) (S' : rvS) (h : cX13_readLine_44 n S a0 = some (r, S')) : rv_Ev mX13_readLine 5 44 [(0, .ref a0)] [] S (some (.int r)) S' := by
  unfold cX13_readLine_44 at h
  refine re_iconst (pc := 44) (0 : Int32) (by decide +kernel : decode cX13_readLine 44 = .ok (.iconst 0, 1)) (by decide) ?_
  exact eX13_readLine_45 n S a0 (0 : Int32) _ _ h
noncomputable def cX13_readLine_95 (n : Nat) (S : rvS) (a0 : Nat) (t0 : Int32) : Option (Int32 × rvS) :=
  if t0 = 0 then (
    cX13_readLine_215 n S a0 t0)
  else (
    (rv_gR S 11 a0 15).bind fun a2_ =>
    (rv_gI S 11 a0 13).bind fun x4_ =>
    (rv_uI S a2_ (4 : Int32) x4_).bind fun S6_ =>
    cX13_readLine_215 n S6_ a0 t0)
set_option maxRecDepth 20000 in
set_option maxHeartbeats 4000000 in
theorem eX13_readLine_95 (n : Nat) (S : rvS) (a0 : Nat) (t0 : Int32) (r : Int32) (S' : rvS) (h : cX13_readLine_95 n S a0 t0 = some (r, S')) : rv_Ev mX13_readLine 5 95 [(0, .ref a0)] [.int t0] S (some (.int r)) S' := by
  unfold cX13_readLine_95 at h
  refine re_istoren (pc := 95) (lv1 := [(1, .int t0), (0, .ref a0)]) (by decide +kernel : decode cX13_readLine 95 = .ok (.istore_n 1, 1)) rfl (by decide) rfl ?_
  refine re_iloadn (pc := 96) 0 (by decide +kernel : decode cX13_readLine 96 = .ok (.iload_n 1, 1)) rfl ?_
  rcases rv_if_e h with ⟨g1_, h⟩ | ⟨g1_, h⟩
  · refine re_if_eq_t (pc := 97) 215 (by decide +kernel : decode cX13_readLine 97 = .ok (.ifCond .eq 118, 3)) (by decide) g1_ ?_
    refine re_sub [1, 0] (lv1 := [(0, .ref a0), (1, .int t0)]) rfl ?_
    exact eX13_readLine_215 n S a0 t0 _ _ h
  · refine re_if_eq_f (pc := 97) 215 (by decide +kernel : decode cX13_readLine 97 = .ok (.ifCond .eq 118, 3)) (by decide) g1_ ?_
    refine re_aloadn (pc := 100) 1 (by decide +kernel : decode cX13_readLine 100 = .ok (.aload_n 0, 1)) rfl ?_
    obtain ⟨a2_, g3_, h⟩ := rv_b_e h
    refine re_gR (pc := 101) g3_ lfX13_16 rfl (by decide +kernel : decode cX13_readLine 101 = .ok (.getfield 16, 3)) ?_
    refine re_iconst (pc := 104) (4 : Int32) (by decide +kernel : decode cX13_readLine 104 = .ok (.iconst 4, 1)) (by decide) ?_
    refine re_aloadn (pc := 105) 1 (by decide +kernel : decode cX13_readLine 105 = .ok (.aload_n 0, 1)) rfl ?_
    obtain ⟨x4_, g5_, h⟩ := rv_b_e h
    refine re_gI (pc := 106) g5_ lfX13_174 rfl (by decide +kernel : decode cX13_readLine 106 = .ok (.getfield 174, 3)) ?_
    obtain ⟨S6_, g7_, h⟩ := rv_b_e h
    refine re_uI (pc := 109) g7_ (by decide +kernel : decode cX13_readLine 109 = .ok (.iastore, 1)) ?_
    refine re_goto (pc := 110) 215 (by decide +kernel : decode cX13_readLine 110 = .ok (.goto 105, 3)) (by decide) ?_
    refine re_sub [1, 0] (lv1 := [(0, .ref a0), (1, .int t0)]) rfl ?_
    exact eX13_readLine_215 n S6_ a0 t0 _ _ h
noncomputable def cX13_readLine_94 (n : Nat) (S : rvS) (a0 : Nat) : Option (Int32 × rvS) :=
  cX13_readLine_95 n S a0 (0 : Int32)
set_option maxRecDepth 20000 in
set_option maxHeartbeats 4000000 in
theorem eX13_readLine_94 (n : Nat) (S : rvS) (a0 : Nat) (r : Int32) (S' : rvS) (h : cX13_readLine_94 n S a0 = some (r, S')) : rv_Ev mX13_readLine 5 94 [(0, .ref a0)] [] S (some (.int r)) S' := by
  unfold cX13_readLine_94 at h
  refine re_iconst (pc := 94) (0 : Int32) (by decide +kernel : decode cX13_readLine 94 = .ok (.iconst 0, 1)) (by decide) ?_
  exact eX13_readLine_95 n S a0 (0 : Int32) _ _ h
noncomputable def cX13_readLine_214 (n : Nat) (S : rvS) (a0 : Nat) (t0 : Int32) : Option (Int32 × rvS) :=
  cX13_readLine_215 n S a0 t0
set_option maxRecDepth 20000 in
set_option maxHeartbeats 4000000 in
theorem eX13_readLine_214 (n : Nat) (S : rvS) (a0 : Nat) (t0 : Int32) (r : Int32) (S' : rvS) (h : cX13_readLine_214 n S a0 t0 = some (r, S')) : rv_Ev mX13_readLine 5 214 [(0, .ref a0)] [.int t0] S (some (.int r)) S' := by
  unfold cX13_readLine_214 at h
  refine re_istoren (pc := 214) (lv1 := [(1, .int t0), (0, .ref a0)]) (by decide +kernel : decode cX13_readLine 214 = .ok (.istore_n 1, 1)) rfl (by decide) rfl ?_
  refine re_sub [1, 0] (lv1 := [(0, .ref a0), (1, .int t0)]) rfl ?_
  exact eX13_readLine_215 n S a0 t0 _ _ h
noncomputable def fnX13_readLine (n : Nat) (S : rvS) (a0 : Nat) : Option (Int32 × rvS) :=
  (rv_ck S 11 a0).bind fun u1_ =>
  (fnX13_isWord n S a0 (0 : Int32)).bind fun x4_ =>
  if x4_ = 0 then (
    (rv_ck S 11 a0).bind fun u7_ =>
    (fnX13_isWord n S a0 (6 : Int32)).bind fun x10_ =>
    if x10_ = 0 then (
      (rv_ck S 11 a0).bind fun u13_ =>
      (fnX13_isWord n S a0 (1 : Int32)).bind fun x16_ =>
      if x16_ = 0 then (
        (rv_ck S 11 a0).bind fun u19_ =>
        (fnX13_isWord n S a0 (2 : Int32)).bind fun x22_ =>
        if x22_ = 0 then (
          (rv_ck S 11 a0).bind fun u25_ =>
          (fnX13_isWord n S a0 (3 : Int32)).bind fun x28_ =>
          if x28_ = 0 then (
            (rv_ck S 11 a0).bind fun u31_ =>
            (fnX13_isWord n S a0 (4 : Int32)).bind fun x34_ =>
            if x34_ = 0 then (
              (rv_ck S 11 a0).bind fun u37_ =>
              (fnX13_isWord n S a0 (5 : Int32)).bind fun x40_ =>
              if x40_ = 0 then (
                (rv_ck S 11 a0).bind fun u43_ =>
                (fnX13_isWord n S a0 (7 : Int32)).bind fun x46_ =>
                if x46_ = 0 then (
                  (rv_ck S 11 a0).bind fun u49_ =>
                  rv_bp (fnX13_bad n S a0 (1 : Int32)) fun x52_ S53_ =>
                  cX13_readLine_214 n S53_ a0 x52_)
                else (
                  (rv_ck S 11 a0).bind fun u56_ =>
                  rv_bp (fnX13_readDead n S a0) fun x59_ S60_ =>
                  cX13_readLine_214 n S60_ a0 x59_))
              else (
                (rv_ck S 11 a0).bind fun u63_ =>
                rv_bp (fnX13_readStranger n S a0) fun x66_ S67_ =>
                cX13_readLine_215 n S67_ a0 x66_))
            else (
              (rv_ck S 11 a0).bind fun u70_ =>
              rv_bp (fnX13_readOwes n S a0) fun x73_ S74_ =>
              cX13_readLine_215 n S74_ a0 x73_))
          else (
            (rv_ck S 11 a0).bind fun u77_ =>
            rv_bp (fnX13_readCoin n S a0) fun x80_ S81_ =>
            cX13_readLine_215 n S81_ a0 x80_))
        else (
          (rv_ck S 11 a0).bind fun u84_ =>
          rv_bp (fnX13_readRoad n S a0) fun x87_ S88_ =>
          cX13_readLine_215 n S88_ a0 x87_))
      else (
        (rv_ck S 11 a0).bind fun u91_ =>
        rv_bp (fnX13_readWho n S a0) fun x94_ S95_ =>
        cX13_readLine_215 n S95_ a0 x94_))
    else (
      (rv_ck S 11 a0).bind fun u98_ =>
      rv_bp (fnX13_readOnce n S a0 (1 : Int32)) fun x101_ S102_ =>
      if x101_ = 0 then (
        cX13_readLine_94 n S102_ a0)
      else (
        (rv_ck S102_ 11 a0).bind fun u106_ =>
        rv_bp (fnX13_readNumber n S102_ a0 (1 : Int32) (99 : Int32)) fun x109_ S110_ =>
        if x109_ = 0 then (
          cX13_readLine_94 n S110_ a0)
        else (
          cX13_readLine_95 n S110_ a0 (1 : Int32)))))
  else (
    (rv_gR S 11 a0 15).bind fun a114_ =>
    (rv_aI S 0 a114_ (1 : Int32)).bind fun x116_ =>
    if x116_ ≤ 0 then (
      (rv_ck S 11 a0).bind fun u119_ =>
      rv_bp (fnX13_readOnce n S a0 (0 : Int32)) fun x122_ S123_ =>
      if x122_ = 0 then (
        cX13_readLine_44 n S123_ a0)
      else (
        (rv_ck S123_ 11 a0).bind fun u127_ =>
        rv_bp (fnX13_readNumber n S123_ a0 (0 : Int32) (3 : Int32)) fun x130_ S131_ =>
        if x130_ = 0 then (
          cX13_readLine_44 n S131_ a0)
        else (
          cX13_readLine_45 n S131_ a0 (1 : Int32))))
    else (
      (rv_ck S 11 a0).bind fun u135_ =>
      rv_bp (fnX13_bad n S a0 (3 : Int32)) fun x138_ S139_ =>
      (rv_bo x138_).bind fun b_ =>
      some (b_, S139_)))
set_option maxRecDepth 20000 in
set_option maxHeartbeats 4000000 in
theorem eX13_readLine_in (n : Nat) (S : rvS) (a0 : Nat) (r : Int32) (S' : rvS) (h : fnX13_readLine n S a0 = some (r, S')) : rv_Ev mX13_readLine 5 0 [(0, .ref a0)] [] S (some (.int r)) S' := by
  unfold fnX13_readLine at h
  refine re_aloadn (pc := 0) 0 (by decide +kernel : decode cX13_readLine 0 = .ok (.aload_n 0, 1)) rfl ?_
  refine re_iconst (pc := 1) (0 : Int32) (by decide +kernel : decode cX13_readLine 1 = .ok (.iconst 0, 1)) (by decide) ?_
  obtain ⟨u1_, g2_, h⟩ := rv_b_e h
  obtain ⟨x4_, g5_, h⟩ := rv_b_e h
  have m3_ := metX13_isWord n S a0 (0 : Int32) _ g5_
  refine re_cV (pc := 2) [.int (0 : Int32)] m3_ (rv_okl.k ⟨rfl, rfl⟩) (rv_up.rf _ _) (by decide) (rv_ck_e g2_) ⟨by decide, rfl⟩ (Nat.le_of_ble_eq_true rfl) lVX13_225 rfl (by decide +kernel : decode cX13_readLine 2 = .ok (.invokevirtual 225, 3)) ?_
  rcases rv_if_e h with ⟨g6_, h⟩ | ⟨g6_, h⟩
  · refine re_if_eq_t (pc := 5) 63 (by decide +kernel : decode cX13_readLine 5 = .ok (.ifCond .eq 58, 3)) (by decide) g6_ ?_
    refine re_aloadn (pc := 63) 0 (by decide +kernel : decode cX13_readLine 63 = .ok (.aload_n 0, 1)) rfl ?_
    refine re_bipush (pc := 64) (6 : Int32) (by decide +kernel : decode cX13_readLine 64 = .ok (.bipush 6, 2)) (by decide) ?_
    obtain ⟨u7_, g8_, h⟩ := rv_b_e h
    obtain ⟨x10_, g11_, h⟩ := rv_b_e h
    have m9_ := metX13_isWord n S a0 (6 : Int32) _ g11_
    refine re_cV (pc := 66) [.int (6 : Int32)] m9_ (rv_okl.k ⟨rfl, rfl⟩) (rv_up.rf _ _) (by decide) (rv_ck_e g8_) ⟨by decide, rfl⟩ (Nat.le_of_ble_eq_true rfl) lVX13_225 rfl (by decide +kernel : decode cX13_readLine 66 = .ok (.invokevirtual 225, 3)) ?_
    rcases rv_if_e h with ⟨g12_, h⟩ | ⟨g12_, h⟩
    · refine re_if_eq_t (pc := 69) 113 (by decide +kernel : decode cX13_readLine 69 = .ok (.ifCond .eq 44, 3)) (by decide) g12_ ?_
      refine re_aloadn (pc := 113) 0 (by decide +kernel : decode cX13_readLine 113 = .ok (.aload_n 0, 1)) rfl ?_
      refine re_iconst (pc := 114) (1 : Int32) (by decide +kernel : decode cX13_readLine 114 = .ok (.iconst 1, 1)) (by decide) ?_
      obtain ⟨u13_, g14_, h⟩ := rv_b_e h
      obtain ⟨x16_, g17_, h⟩ := rv_b_e h
      have m15_ := metX13_isWord n S a0 (1 : Int32) _ g17_
      refine re_cV (pc := 115) [.int (1 : Int32)] m15_ (rv_okl.k ⟨rfl, rfl⟩) (rv_up.rf _ _) (by decide) (rv_ck_e g14_) ⟨by decide, rfl⟩ (Nat.le_of_ble_eq_true rfl) lVX13_225 rfl (by decide +kernel : decode cX13_readLine 115 = .ok (.invokevirtual 225, 3)) ?_
      rcases rv_if_e h with ⟨g18_, h⟩ | ⟨g18_, h⟩
      · refine re_if_eq_t (pc := 118) 129 (by decide +kernel : decode cX13_readLine 118 = .ok (.ifCond .eq 11, 3)) (by decide) g18_ ?_
        refine re_aloadn (pc := 129) 0 (by decide +kernel : decode cX13_readLine 129 = .ok (.aload_n 0, 1)) rfl ?_
        refine re_iconst (pc := 130) (2 : Int32) (by decide +kernel : decode cX13_readLine 130 = .ok (.iconst 2, 1)) (by decide) ?_
        obtain ⟨u19_, g20_, h⟩ := rv_b_e h
        obtain ⟨x22_, g23_, h⟩ := rv_b_e h
        have m21_ := metX13_isWord n S a0 (2 : Int32) _ g23_
        refine re_cV (pc := 131) [.int (2 : Int32)] m21_ (rv_okl.k ⟨rfl, rfl⟩) (rv_up.rf _ _) (by decide) (rv_ck_e g20_) ⟨by decide, rfl⟩ (Nat.le_of_ble_eq_true rfl) lVX13_225 rfl (by decide +kernel : decode cX13_readLine 131 = .ok (.invokevirtual 225, 3)) ?_
        rcases rv_if_e h with ⟨g24_, h⟩ | ⟨g24_, h⟩
        · refine re_if_eq_t (pc := 134) 145 (by decide +kernel : decode cX13_readLine 134 = .ok (.ifCond .eq 11, 3)) (by decide) g24_ ?_
          refine re_aloadn (pc := 145) 0 (by decide +kernel : decode cX13_readLine 145 = .ok (.aload_n 0, 1)) rfl ?_
          refine re_iconst (pc := 146) (3 : Int32) (by decide +kernel : decode cX13_readLine 146 = .ok (.iconst 3, 1)) (by decide) ?_
          obtain ⟨u25_, g26_, h⟩ := rv_b_e h
          obtain ⟨x28_, g29_, h⟩ := rv_b_e h
          have m27_ := metX13_isWord n S a0 (3 : Int32) _ g29_
          refine re_cV (pc := 147) [.int (3 : Int32)] m27_ (rv_okl.k ⟨rfl, rfl⟩) (rv_up.rf _ _) (by decide) (rv_ck_e g26_) ⟨by decide, rfl⟩ (Nat.le_of_ble_eq_true rfl) lVX13_225 rfl (by decide +kernel : decode cX13_readLine 147 = .ok (.invokevirtual 225, 3)) ?_
          rcases rv_if_e h with ⟨g30_, h⟩ | ⟨g30_, h⟩
          · refine re_if_eq_t (pc := 150) 161 (by decide +kernel : decode cX13_readLine 150 = .ok (.ifCond .eq 11, 3)) (by decide) g30_ ?_
            refine re_aloadn (pc := 161) 0 (by decide +kernel : decode cX13_readLine 161 = .ok (.aload_n 0, 1)) rfl ?_
            refine re_iconst (pc := 162) (4 : Int32) (by decide +kernel : decode cX13_readLine 162 = .ok (.iconst 4, 1)) (by decide) ?_
            obtain ⟨u31_, g32_, h⟩ := rv_b_e h
            obtain ⟨x34_, g35_, h⟩ := rv_b_e h
            have m33_ := metX13_isWord n S a0 (4 : Int32) _ g35_
            refine re_cV (pc := 163) [.int (4 : Int32)] m33_ (rv_okl.k ⟨rfl, rfl⟩) (rv_up.rf _ _) (by decide) (rv_ck_e g32_) ⟨by decide, rfl⟩ (Nat.le_of_ble_eq_true rfl) lVX13_225 rfl (by decide +kernel : decode cX13_readLine 163 = .ok (.invokevirtual 225, 3)) ?_
            rcases rv_if_e h with ⟨g36_, h⟩ | ⟨g36_, h⟩
            · refine re_if_eq_t (pc := 166) 177 (by decide +kernel : decode cX13_readLine 166 = .ok (.ifCond .eq 11, 3)) (by decide) g36_ ?_
              refine re_aloadn (pc := 177) 0 (by decide +kernel : decode cX13_readLine 177 = .ok (.aload_n 0, 1)) rfl ?_
              refine re_iconst (pc := 178) (5 : Int32) (by decide +kernel : decode cX13_readLine 178 = .ok (.iconst 5, 1)) (by decide) ?_
              obtain ⟨u37_, g38_, h⟩ := rv_b_e h
              obtain ⟨x40_, g41_, h⟩ := rv_b_e h
              have m39_ := metX13_isWord n S a0 (5 : Int32) _ g41_
              refine re_cV (pc := 179) [.int (5 : Int32)] m39_ (rv_okl.k ⟨rfl, rfl⟩) (rv_up.rf _ _) (by decide) (rv_ck_e g38_) ⟨by decide, rfl⟩ (Nat.le_of_ble_eq_true rfl) lVX13_225 rfl (by decide +kernel : decode cX13_readLine 179 = .ok (.invokevirtual 225, 3)) ?_
              rcases rv_if_e h with ⟨g42_, h⟩ | ⟨g42_, h⟩
              · refine re_if_eq_t (pc := 182) 193 (by decide +kernel : decode cX13_readLine 182 = .ok (.ifCond .eq 11, 3)) (by decide) g42_ ?_
                refine re_aloadn (pc := 193) 0 (by decide +kernel : decode cX13_readLine 193 = .ok (.aload_n 0, 1)) rfl ?_
                refine re_bipush (pc := 194) (7 : Int32) (by decide +kernel : decode cX13_readLine 194 = .ok (.bipush 7, 2)) (by decide) ?_
                obtain ⟨u43_, g44_, h⟩ := rv_b_e h
                obtain ⟨x46_, g47_, h⟩ := rv_b_e h
                have m45_ := metX13_isWord n S a0 (7 : Int32) _ g47_
                refine re_cV (pc := 196) [.int (7 : Int32)] m45_ (rv_okl.k ⟨rfl, rfl⟩) (rv_up.rf _ _) (by decide) (rv_ck_e g44_) ⟨by decide, rfl⟩ (Nat.le_of_ble_eq_true rfl) lVX13_225 rfl (by decide +kernel : decode cX13_readLine 196 = .ok (.invokevirtual 225, 3)) ?_
                rcases rv_if_e h with ⟨g48_, h⟩ | ⟨g48_, h⟩
                · refine re_if_eq_t (pc := 199) 209 (by decide +kernel : decode cX13_readLine 199 = .ok (.ifCond .eq 10, 3)) (by decide) g48_ ?_
                  refine re_aloadn (pc := 209) 0 (by decide +kernel : decode cX13_readLine 209 = .ok (.aload_n 0, 1)) rfl ?_
                  refine re_iconst (pc := 210) (1 : Int32) (by decide +kernel : decode cX13_readLine 210 = .ok (.iconst 1, 1)) (by decide) ?_
                  obtain ⟨u49_, g50_, h⟩ := rv_b_e h
                  obtain ⟨x52_, S53_, g54_, h⟩ := rv_bp_e h
                  have m51_ := metX13_bad n S a0 (1 : Int32) _ _ g54_
                  have z55_ : rv_same S S53_ := m51_.sh rfl
                  refine re_cV (pc := 211) [.int (1 : Int32)] m51_ (rv_okl.k z55_) (rv_up.sh z55_) (by decide) (rv_ck_e g50_) ⟨by decide, rfl⟩ (Nat.le_of_ble_eq_true rfl) lVX13_167 rfl (by decide +kernel : decode cX13_readLine 211 = .ok (.invokevirtual 167, 3)) ?_
                  exact eX13_readLine_214 n S53_ a0 x52_ _ _ h
                · refine re_if_eq_f (pc := 199) 209 (by decide +kernel : decode cX13_readLine 199 = .ok (.ifCond .eq 10, 3)) (by decide) g48_ ?_
                  refine re_aloadn (pc := 202) 0 (by decide +kernel : decode cX13_readLine 202 = .ok (.aload_n 0, 1)) rfl ?_
                  obtain ⟨u56_, g57_, h⟩ := rv_b_e h
                  obtain ⟨x59_, S60_, g61_, h⟩ := rv_bp_e h
                  have m58_ := metX13_readDead n S a0 _ _ g61_
                  have z62_ : rv_same S S60_ := m58_.sh rfl
                  refine re_cV (pc := 203) [] m58_ (rv_okl.k z62_) (rv_up.sh z62_) (by decide) (rv_ck_e g57_) ⟨by decide, rfl⟩ (Nat.le_of_ble_eq_true rfl) lVX13_243 rfl (by decide +kernel : decode cX13_readLine 203 = .ok (.invokevirtual 243, 3)) ?_
                  refine re_goto (pc := 206) 214 (by decide +kernel : decode cX13_readLine 206 = .ok (.goto 8, 3)) (by decide) ?_
                  exact eX13_readLine_214 n S60_ a0 x59_ _ _ h
              · refine re_if_eq_f (pc := 182) 193 (by decide +kernel : decode cX13_readLine 182 = .ok (.ifCond .eq 11, 3)) (by decide) g42_ ?_
                refine re_aloadn (pc := 185) 0 (by decide +kernel : decode cX13_readLine 185 = .ok (.aload_n 0, 1)) rfl ?_
                obtain ⟨u63_, g64_, h⟩ := rv_b_e h
                obtain ⟨x66_, S67_, g68_, h⟩ := rv_bp_e h
                have m65_ := metX13_readStranger n S a0 _ _ g68_
                have z69_ : rv_same S S67_ := m65_.sh rfl
                refine re_cV (pc := 186) [] m65_ (rv_okl.k z69_) (rv_up.sh z69_) (by decide) (rv_ck_e g64_) ⟨by decide, rfl⟩ (Nat.le_of_ble_eq_true rfl) lVX13_240 rfl (by decide +kernel : decode cX13_readLine 186 = .ok (.invokevirtual 240, 3)) ?_
                refine re_istoren (pc := 189) (lv1 := [(1, .int x66_), (0, .ref a0)]) (by decide +kernel : decode cX13_readLine 189 = .ok (.istore_n 1, 1)) rfl (by decide) rfl ?_
                refine re_goto (pc := 190) 215 (by decide +kernel : decode cX13_readLine 190 = .ok (.goto 25, 3)) (by decide) ?_
                refine re_sub [1, 0] (lv1 := [(0, .ref a0), (1, .int x66_)]) rfl ?_
                exact eX13_readLine_215 n S67_ a0 x66_ _ _ h
            · refine re_if_eq_f (pc := 166) 177 (by decide +kernel : decode cX13_readLine 166 = .ok (.ifCond .eq 11, 3)) (by decide) g36_ ?_
              refine re_aloadn (pc := 169) 0 (by decide +kernel : decode cX13_readLine 169 = .ok (.aload_n 0, 1)) rfl ?_
              obtain ⟨u70_, g71_, h⟩ := rv_b_e h
              obtain ⟨x73_, S74_, g75_, h⟩ := rv_bp_e h
              have m72_ := metX13_readOwes n S a0 _ _ g75_
              have z76_ : rv_same S S74_ := m72_.sh rfl
              refine re_cV (pc := 170) [] m72_ (rv_okl.k z76_) (rv_up.sh z76_) (by decide) (rv_ck_e g71_) ⟨by decide, rfl⟩ (Nat.le_of_ble_eq_true rfl) lVX13_237 rfl (by decide +kernel : decode cX13_readLine 170 = .ok (.invokevirtual 237, 3)) ?_
              refine re_istoren (pc := 173) (lv1 := [(1, .int x73_), (0, .ref a0)]) (by decide +kernel : decode cX13_readLine 173 = .ok (.istore_n 1, 1)) rfl (by decide) rfl ?_
              refine re_goto (pc := 174) 215 (by decide +kernel : decode cX13_readLine 174 = .ok (.goto 41, 3)) (by decide) ?_
              refine re_sub [1, 0] (lv1 := [(0, .ref a0), (1, .int x73_)]) rfl ?_
              exact eX13_readLine_215 n S74_ a0 x73_ _ _ h
          · refine re_if_eq_f (pc := 150) 161 (by decide +kernel : decode cX13_readLine 150 = .ok (.ifCond .eq 11, 3)) (by decide) g30_ ?_
            refine re_aloadn (pc := 153) 0 (by decide +kernel : decode cX13_readLine 153 = .ok (.aload_n 0, 1)) rfl ?_
            obtain ⟨u77_, g78_, h⟩ := rv_b_e h
            obtain ⟨x80_, S81_, g82_, h⟩ := rv_bp_e h
            have m79_ := metX13_readCoin n S a0 _ _ g82_
            have z83_ : rv_same S S81_ := m79_.sh rfl
            refine re_cV (pc := 154) [] m79_ (rv_okl.k z83_) (rv_up.sh z83_) (by decide) (rv_ck_e g78_) ⟨by decide, rfl⟩ (Nat.le_of_ble_eq_true rfl) lVX13_234 rfl (by decide +kernel : decode cX13_readLine 154 = .ok (.invokevirtual 234, 3)) ?_
            refine re_istoren (pc := 157) (lv1 := [(1, .int x80_), (0, .ref a0)]) (by decide +kernel : decode cX13_readLine 157 = .ok (.istore_n 1, 1)) rfl (by decide) rfl ?_
            refine re_goto (pc := 158) 215 (by decide +kernel : decode cX13_readLine 158 = .ok (.goto 57, 3)) (by decide) ?_
            refine re_sub [1, 0] (lv1 := [(0, .ref a0), (1, .int x80_)]) rfl ?_
            exact eX13_readLine_215 n S81_ a0 x80_ _ _ h
        · refine re_if_eq_f (pc := 134) 145 (by decide +kernel : decode cX13_readLine 134 = .ok (.ifCond .eq 11, 3)) (by decide) g24_ ?_
          refine re_aloadn (pc := 137) 0 (by decide +kernel : decode cX13_readLine 137 = .ok (.aload_n 0, 1)) rfl ?_
          obtain ⟨u84_, g85_, h⟩ := rv_b_e h
          obtain ⟨x87_, S88_, g89_, h⟩ := rv_bp_e h
          have m86_ := metX13_readRoad n S a0 _ _ g89_
          have z90_ : rv_same S S88_ := m86_.sh rfl
          refine re_cV (pc := 138) [] m86_ (rv_okl.k z90_) (rv_up.sh z90_) (by decide) (rv_ck_e g85_) ⟨by decide, rfl⟩ (Nat.le_of_ble_eq_true rfl) lVX13_231 rfl (by decide +kernel : decode cX13_readLine 138 = .ok (.invokevirtual 231, 3)) ?_
          refine re_istoren (pc := 141) (lv1 := [(1, .int x87_), (0, .ref a0)]) (by decide +kernel : decode cX13_readLine 141 = .ok (.istore_n 1, 1)) rfl (by decide) rfl ?_
          refine re_goto (pc := 142) 215 (by decide +kernel : decode cX13_readLine 142 = .ok (.goto 73, 3)) (by decide) ?_
          refine re_sub [1, 0] (lv1 := [(0, .ref a0), (1, .int x87_)]) rfl ?_
          exact eX13_readLine_215 n S88_ a0 x87_ _ _ h
      · refine re_if_eq_f (pc := 118) 129 (by decide +kernel : decode cX13_readLine 118 = .ok (.ifCond .eq 11, 3)) (by decide) g18_ ?_
        refine re_aloadn (pc := 121) 0 (by decide +kernel : decode cX13_readLine 121 = .ok (.aload_n 0, 1)) rfl ?_
        obtain ⟨u91_, g92_, h⟩ := rv_b_e h
        obtain ⟨x94_, S95_, g96_, h⟩ := rv_bp_e h
        have m93_ := metX13_readWho n S a0 _ _ g96_
        have z97_ : rv_same S S95_ := m93_.sh rfl
        refine re_cV (pc := 122) [] m93_ (rv_okl.k z97_) (rv_up.sh z97_) (by decide) (rv_ck_e g92_) ⟨by decide, rfl⟩ (Nat.le_of_ble_eq_true rfl) lVX13_228 rfl (by decide +kernel : decode cX13_readLine 122 = .ok (.invokevirtual 228, 3)) ?_
        refine re_istoren (pc := 125) (lv1 := [(1, .int x94_), (0, .ref a0)]) (by decide +kernel : decode cX13_readLine 125 = .ok (.istore_n 1, 1)) rfl (by decide) rfl ?_
        refine re_goto (pc := 126) 215 (by decide +kernel : decode cX13_readLine 126 = .ok (.goto 89, 3)) (by decide) ?_
        refine re_sub [1, 0] (lv1 := [(0, .ref a0), (1, .int x94_)]) rfl ?_
        exact eX13_readLine_215 n S95_ a0 x94_ _ _ h
    · refine re_if_eq_f (pc := 69) 113 (by decide +kernel : decode cX13_readLine 69 = .ok (.ifCond .eq 44, 3)) (by decide) g12_ ?_
      refine re_aloadn (pc := 72) 0 (by decide +kernel : decode cX13_readLine 72 = .ok (.aload_n 0, 1)) rfl ?_
      refine re_iconst (pc := 73) (1 : Int32) (by decide +kernel : decode cX13_readLine 73 = .ok (.iconst 1, 1)) (by decide) ?_
      obtain ⟨u98_, g99_, h⟩ := rv_b_e h
      obtain ⟨x101_, S102_, g103_, h⟩ := rv_bp_e h
      have m100_ := metX13_readOnce n S a0 (1 : Int32) _ _ g103_
      have z104_ : rv_same S S102_ := m100_.sh rfl
      refine re_cV (pc := 74) [.int (1 : Int32)] m100_ (rv_okl.k z104_) (rv_up.sh z104_) (by decide) (rv_ck_e g99_) ⟨by decide, rfl⟩ (Nat.le_of_ble_eq_true rfl) lVX13_222 rfl (by decide +kernel : decode cX13_readLine 74 = .ok (.invokevirtual 222, 3)) ?_
      rcases rv_if_e h with ⟨g105_, h⟩ | ⟨g105_, h⟩
      · refine re_if_eq_t (pc := 77) 94 (by decide +kernel : decode cX13_readLine 77 = .ok (.ifCond .eq 17, 3)) (by decide) g105_ ?_
        exact eX13_readLine_94 n S102_ a0 _ _ h
      · refine re_if_eq_f (pc := 77) 94 (by decide +kernel : decode cX13_readLine 77 = .ok (.ifCond .eq 17, 3)) (by decide) g105_ ?_
        refine re_aloadn (pc := 80) 0 (by decide +kernel : decode cX13_readLine 80 = .ok (.aload_n 0, 1)) rfl ?_
        refine re_iconst (pc := 81) (1 : Int32) (by decide +kernel : decode cX13_readLine 81 = .ok (.iconst 1, 1)) (by decide) ?_
        refine re_bipush (pc := 82) (99 : Int32) (by decide +kernel : decode cX13_readLine 82 = .ok (.bipush 99, 2)) (by decide) ?_
        obtain ⟨u106_, g107_, h⟩ := rv_b_e h
        obtain ⟨x109_, S110_, g111_, h⟩ := rv_bp_e h
        have m108_ := metX13_readNumber n S102_ a0 (1 : Int32) (99 : Int32) _ _ g111_
        have z112_ : rv_same S102_ S110_ := m108_.sh rfl
        refine re_cV (pc := 84) [.int (1 : Int32), .int (99 : Int32)] m108_ (rv_okl.k z112_) (rv_up.sh z112_) (by decide) (rv_ck_e g107_) ⟨by decide, rfl⟩ (Nat.le_of_ble_eq_true rfl) lVX13_216 rfl (by decide +kernel : decode cX13_readLine 84 = .ok (.invokevirtual 216, 3)) ?_
        rcases rv_if_e h with ⟨g113_, h⟩ | ⟨g113_, h⟩
        · refine re_if_eq_t (pc := 87) 94 (by decide +kernel : decode cX13_readLine 87 = .ok (.ifCond .eq 7, 3)) (by decide) g113_ ?_
          exact eX13_readLine_94 n S110_ a0 _ _ h
        · refine re_if_eq_f (pc := 87) 94 (by decide +kernel : decode cX13_readLine 87 = .ok (.ifCond .eq 7, 3)) (by decide) g113_ ?_
          refine re_iconst (pc := 90) (1 : Int32) (by decide +kernel : decode cX13_readLine 90 = .ok (.iconst 1, 1)) (by decide) ?_
          refine re_goto (pc := 91) 95 (by decide +kernel : decode cX13_readLine 91 = .ok (.goto 4, 3)) (by decide) ?_
          exact eX13_readLine_95 n S110_ a0 (1 : Int32) _ _ h
  · refine re_if_eq_f (pc := 5) 63 (by decide +kernel : decode cX13_readLine 5 = .ok (.ifCond .eq 58, 3)) (by decide) g6_ ?_
    refine re_aloadn (pc := 8) 0 (by decide +kernel : decode cX13_readLine 8 = .ok (.aload_n 0, 1)) rfl ?_
    obtain ⟨a114_, g115_, h⟩ := rv_b_e h
    refine re_gR (pc := 9) g115_ lfX13_16 rfl (by decide +kernel : decode cX13_readLine 9 = .ok (.getfield 16, 3)) ?_
    refine re_iconst (pc := 12) (1 : Int32) (by decide +kernel : decode cX13_readLine 12 = .ok (.iconst 1, 1)) (by decide) ?_
    obtain ⟨x116_, g117_, h⟩ := rv_b_e h
    refine re_aI (pc := 13) g117_ (by decide +kernel : decode cX13_readLine 13 = .ok (.iaload, 1)) ?_
    rcases rv_if_e h with ⟨g118_, h⟩ | ⟨g118_, h⟩
    · refine re_if_le_t (pc := 14) 23 (by decide +kernel : decode cX13_readLine 14 = .ok (.ifCond .le 9, 3)) (by decide) g118_ ?_
      refine re_aloadn (pc := 23) 0 (by decide +kernel : decode cX13_readLine 23 = .ok (.aload_n 0, 1)) rfl ?_
      refine re_iconst (pc := 24) (0 : Int32) (by decide +kernel : decode cX13_readLine 24 = .ok (.iconst 0, 1)) (by decide) ?_
      obtain ⟨u119_, g120_, h⟩ := rv_b_e h
      obtain ⟨x122_, S123_, g124_, h⟩ := rv_bp_e h
      have m121_ := metX13_readOnce n S a0 (0 : Int32) _ _ g124_
      have z125_ : rv_same S S123_ := m121_.sh rfl
      refine re_cV (pc := 25) [.int (0 : Int32)] m121_ (rv_okl.k z125_) (rv_up.sh z125_) (by decide) (rv_ck_e g120_) ⟨by decide, rfl⟩ (Nat.le_of_ble_eq_true rfl) lVX13_222 rfl (by decide +kernel : decode cX13_readLine 25 = .ok (.invokevirtual 222, 3)) ?_
      rcases rv_if_e h with ⟨g126_, h⟩ | ⟨g126_, h⟩
      · refine re_if_eq_t (pc := 28) 44 (by decide +kernel : decode cX13_readLine 28 = .ok (.ifCond .eq 16, 3)) (by decide) g126_ ?_
        exact eX13_readLine_44 n S123_ a0 _ _ h
      · refine re_if_eq_f (pc := 28) 44 (by decide +kernel : decode cX13_readLine 28 = .ok (.ifCond .eq 16, 3)) (by decide) g126_ ?_
        refine re_aloadn (pc := 31) 0 (by decide +kernel : decode cX13_readLine 31 = .ok (.aload_n 0, 1)) rfl ?_
        refine re_iconst (pc := 32) (0 : Int32) (by decide +kernel : decode cX13_readLine 32 = .ok (.iconst 0, 1)) (by decide) ?_
        refine re_iconst (pc := 33) (3 : Int32) (by decide +kernel : decode cX13_readLine 33 = .ok (.iconst 3, 1)) (by decide) ?_
        obtain ⟨u127_, g128_, h⟩ := rv_b_e h
        obtain ⟨x130_, S131_, g132_, h⟩ := rv_bp_e h
        have m129_ := metX13_readNumber n S123_ a0 (0 : Int32) (3 : Int32) _ _ g132_
        have z133_ : rv_same S123_ S131_ := m129_.sh rfl
        refine re_cV (pc := 34) [.int (0 : Int32), .int (3 : Int32)] m129_ (rv_okl.k z133_) (rv_up.sh z133_) (by decide) (rv_ck_e g128_) ⟨by decide, rfl⟩ (Nat.le_of_ble_eq_true rfl) lVX13_216 rfl (by decide +kernel : decode cX13_readLine 34 = .ok (.invokevirtual 216, 3)) ?_
        rcases rv_if_e h with ⟨g134_, h⟩ | ⟨g134_, h⟩
        · refine re_if_eq_t (pc := 37) 44 (by decide +kernel : decode cX13_readLine 37 = .ok (.ifCond .eq 7, 3)) (by decide) g134_ ?_
          exact eX13_readLine_44 n S131_ a0 _ _ h
        · refine re_if_eq_f (pc := 37) 44 (by decide +kernel : decode cX13_readLine 37 = .ok (.ifCond .eq 7, 3)) (by decide) g134_ ?_
          refine re_iconst (pc := 40) (1 : Int32) (by decide +kernel : decode cX13_readLine 40 = .ok (.iconst 1, 1)) (by decide) ?_
          refine re_goto (pc := 41) 45 (by decide +kernel : decode cX13_readLine 41 = .ok (.goto 4, 3)) (by decide) ?_
          exact eX13_readLine_45 n S131_ a0 (1 : Int32) _ _ h
    · refine re_if_le_f (pc := 14) 23 (by decide +kernel : decode cX13_readLine 14 = .ok (.ifCond .le 9, 3)) (by decide) g118_ ?_
      refine re_aloadn (pc := 17) 0 (by decide +kernel : decode cX13_readLine 17 = .ok (.aload_n 0, 1)) rfl ?_
      refine re_iconst (pc := 18) (3 : Int32) (by decide +kernel : decode cX13_readLine 18 = .ok (.iconst 3, 1)) (by decide) ?_
      obtain ⟨u135_, g136_, h⟩ := rv_b_e h
      obtain ⟨x138_, S139_, g140_, h⟩ := rv_bp_e h
      have m137_ := metX13_bad n S a0 (3 : Int32) _ _ g140_
      have z141_ : rv_same S S139_ := m137_.sh rfl
      refine re_cV (pc := 19) [.int (3 : Int32)] m137_ (rv_okl.k z141_) (rv_up.sh z141_) (by decide) (rv_ck_e g136_) ⟨by decide, rfl⟩ (Nat.le_of_ble_eq_true rfl) lVX13_167 rfl (by decide +kernel : decode cX13_readLine 19 = .ok (.invokevirtual 167, 3)) ?_
      obtain ⟨b_, gb_, h⟩ := rv_b_e h
      obtain ⟨gb1_, gb2_⟩ := rv_bo_e gb_
      refine re_nI (pc := 22) gb1_ ?_
      cases h
      exact re_iret (fun ty hty => by cases hty; exact gb2_) (by decide +kernel : decode cX13_readLine 22 = .ok (.ireturn, 1))
theorem metX13_readLine (n : Nat) (S : rvS) (a0 : Nat) (r : Int32) (S' : rvS) (h : fnX13_readLine n S a0 = some (r, S')) : rv_Met yX13_readLine mX13_readLine 5 [.ref a0] S (some (.int r)) S' := rv_Met.of ⟨by decide +kernel, rfl, (fun z => by first | rfl | cases z), rfl⟩ (Nat.le_of_ble_eq_true rfl) rfl (eX13_readLine_in n S a0 r S' h)
noncomputable def cX13_valley_99 (n : Nat) : Nat → rvS → Nat → Int32 → Int32 → Option (Int32 × rvS)
  | 0, _, _, _, _ => none
  | k + 1, S, a0, x1, x2 =>
    if (16 : Int32) ≤ x2 then (
      some (x1, S))
    else (
      (rv_gR S 11 a0 18).bind fun a2_ =>
      (rv_gR S 11 a0 19).bind fun a4_ =>
      (rv_aL S a4_ x2).bind fun x6_ =>
      (rv_uL S a2_ x2 x6_).bind fun S8_ =>
      rv_lt (x2 + (1)) fun x10_ =>
      cX13_valley_99 n k S8_ a0 x1 x10_)
set_option maxRecDepth 20000 in
set_option maxHeartbeats 4000000 in
theorem eX13_valley_99 (n : Nat) : ∀ (k : Nat) (S : rvS) (a0 : Nat) (x1 : Int32) (x2 : Int32) (r : Int32) (S' : rvS), cX13_valley_99 n k S a0 x1 x2 = some (r, S') → rv_Ev mX13_valley 6 99 [(0, .ref a0), (1, .int x1), (2, .int x2)] [] S (some (.int r)) S' := by
  intro k
  induction k with
  | zero => intro S a0 x1 x2 r S' h; exact absurd h (by simp [cX13_valley_99])
  | succ k ih =>
    intro S a0 x1 x2 r S' h
    unfold cX13_valley_99 at h
    refine re_iloadn (pc := 99) 2 (by decide +kernel : decode cX13_valley 99 = .ok (.iload_n 2, 1)) rfl ?_
    refine re_bipush (pc := 100) (16 : Int32) (by decide +kernel : decode cX13_valley 100 = .ok (.bipush 16, 2)) (by decide) ?_
    rcases rv_if_e h with ⟨g1_, h⟩ | ⟨g1_, h⟩
    · refine re_icmp_ge_t (pc := 102) 123 (by decide +kernel : decode cX13_valley 102 = .ok (.if_icmp .ge 21, 3)) (by decide) g1_ ?_
      refine re_iloadn (pc := 123) 1 (by decide +kernel : decode cX13_valley 123 = .ok (.iload_n 1, 1)) rfl ?_
      cases h
      exact re_iret (fun ty hty => by cases hty; rfl) (by decide +kernel : decode cX13_valley 124 = .ok (.ireturn, 1))
    · refine re_icmp_ge_f (pc := 102) 123 (by decide +kernel : decode cX13_valley 102 = .ok (.if_icmp .ge 21, 3)) (by decide) g1_ ?_
      refine re_aloadn (pc := 105) 0 (by decide +kernel : decode cX13_valley 105 = .ok (.aload_n 0, 1)) rfl ?_
      obtain ⟨a2_, g3_, h⟩ := rv_b_e h
      refine re_gR (pc := 106) g3_ lfX13_25 rfl (by decide +kernel : decode cX13_valley 106 = .ok (.getfield 25, 3)) ?_
      refine re_iloadn (pc := 109) 2 (by decide +kernel : decode cX13_valley 109 = .ok (.iload_n 2, 1)) rfl ?_
      refine re_aloadn (pc := 110) 0 (by decide +kernel : decode cX13_valley 110 = .ok (.aload_n 0, 1)) rfl ?_
      obtain ⟨a4_, g5_, h⟩ := rv_b_e h
      refine re_gR (pc := 111) g5_ lfX13_29 rfl (by decide +kernel : decode cX13_valley 111 = .ok (.getfield 29, 3)) ?_
      refine re_iloadn (pc := 114) 2 (by decide +kernel : decode cX13_valley 114 = .ok (.iload_n 2, 1)) rfl ?_
      obtain ⟨x6_, g7_, h⟩ := rv_b_e h
      refine re_aL (pc := 115) g7_ (by decide +kernel : decode cX13_valley 115 = .ok (.laload, 1)) ?_
      obtain ⟨S8_, g9_, h⟩ := rv_b_e h
      refine re_uL (pc := 116) g9_ (by decide +kernel : decode cX13_valley 116 = .ok (.lastore, 1)) ?_
      obtain ⟨x10_, g11_, h⟩ := rv_lt_e h
      refine re_iinc (pc := 117) 2 x10_ (lv1 := [(2, .int x10_), (0, .ref a0), (1, .int x1)]) (by decide +kernel : decode cX13_valley 117 = .ok (.iinc 2 1, 3)) rfl g11_ (by decide) rfl ?_
      refine re_goto (pc := 120) 99 (by decide +kernel : decode cX13_valley 120 = .ok (.goto (-21), 3)) (by decide) ?_
      refine re_sub [1, 2, 0] (lv1 := [(0, .ref a0), (1, .int x1), (2, .int x10_)]) rfl ?_
      exact ih S8_ a0 x1 x10_ _ _ h
noncomputable def cX13_valley_88 (n : Nat) (S : rvS) (a0 : Nat) (x1 : Int32) : Option (Int32 × rvS) :=
  (rv_gR S 11 a0 14).bind fun a1_ =>
  (rv_uI S a1_ (420 : Int32) (0 : Int32)).bind fun S3_ =>
  cX13_valley_99 n n S3_ a0 x1 (0 : Int32)
set_option maxRecDepth 20000 in
set_option maxHeartbeats 4000000 in
theorem eX13_valley_88 (n : Nat) (S : rvS) (a0 : Nat) (x1 : Int32) (r : Int32) (S' : rvS) (h : cX13_valley_88 n S a0 x1 = some (r, S')) : rv_Ev mX13_valley 6 88 [(0, .ref a0), (1, .int x1)] [] S (some (.int r)) S' := by
  unfold cX13_valley_88 at h
  refine re_aloadn (pc := 88) 0 (by decide +kernel : decode cX13_valley 88 = .ok (.aload_n 0, 1)) rfl ?_
  obtain ⟨a1_, g2_, h⟩ := rv_b_e h
  refine re_gR (pc := 89) g2_ lfX13_13 rfl (by decide +kernel : decode cX13_valley 89 = .ok (.getfield 13, 3)) ?_
  refine re_sipush (pc := 92) (420 : Int32) (by decide +kernel : decode cX13_valley 92 = .ok (.sipush 420, 3)) (by decide) ?_
  refine re_iconst (pc := 95) (0 : Int32) (by decide +kernel : decode cX13_valley 95 = .ok (.iconst 0, 1)) (by decide) ?_
  obtain ⟨S3_, g4_, h⟩ := rv_b_e h
  refine re_uI (pc := 96) g4_ (by decide +kernel : decode cX13_valley 96 = .ok (.iastore, 1)) ?_
  refine re_iconst (pc := 97) (0 : Int32) (by decide +kernel : decode cX13_valley 97 = .ok (.iconst 0, 1)) (by decide) ?_
  refine re_istoren (pc := 98) (lv1 := [(2, .int (0 : Int32)), (0, .ref a0), (1, .int x1)]) (by decide +kernel : decode cX13_valley 98 = .ok (.istore_n 2, 1)) rfl (by decide) rfl ?_
  refine re_sub [1, 2, 0] (lv1 := [(0, .ref a0), (1, .int x1), (2, .int (0 : Int32))]) rfl ?_
  exact eX13_valley_99 n n S3_ a0 x1 (0 : Int32) _ _ h
noncomputable def cX13_valley_63 (n : Nat) : Nat → rvS → Nat → Int32 → Int32 → Option (Int32 × rvS)
  | 0, _, _, _, _ => none
  | k + 1, S, a0, x1, x2 =>
    if (420 : Int32) ≤ x2 then (
      cX13_valley_88 n S a0 x1)
    else (
      (rv_gR S 11 a0 14).bind fun a2_ =>
      (rv_gR S 11 a0 15).bind fun a4_ =>
      (rv_aI S 0 a4_ x2).bind fun x6_ =>
      (rv_uI S a2_ x2 x6_).bind fun S8_ =>
      rv_lt (x2 + (1)) fun x10_ =>
      cX13_valley_63 n k S8_ a0 x1 x10_)
set_option maxRecDepth 20000 in
set_option maxHeartbeats 4000000 in
theorem eX13_valley_63 (n : Nat) : ∀ (k : Nat) (S : rvS) (a0 : Nat) (x1 : Int32) (x2 : Int32) (r : Int32) (S' : rvS), cX13_valley_63 n k S a0 x1 x2 = some (r, S') → rv_Ev mX13_valley 6 63 [(0, .ref a0), (1, .int x1), (2, .int x2)] [] S (some (.int r)) S' := by
  intro k
  induction k with
  | zero => intro S a0 x1 x2 r S' h; exact absurd h (by simp [cX13_valley_63])
  | succ k ih =>
    intro S a0 x1 x2 r S' h
    unfold cX13_valley_63 at h
    refine re_iloadn (pc := 63) 2 (by decide +kernel : decode cX13_valley 63 = .ok (.iload_n 2, 1)) rfl ?_
    refine re_sipush (pc := 64) (420 : Int32) (by decide +kernel : decode cX13_valley 64 = .ok (.sipush 420, 3)) (by decide) ?_
    rcases rv_if_e h with ⟨g1_, h⟩ | ⟨g1_, h⟩
    · refine re_icmp_ge_t (pc := 67) 88 (by decide +kernel : decode cX13_valley 67 = .ok (.if_icmp .ge 21, 3)) (by decide) g1_ ?_
      refine re_sub [0, 1] (lv1 := [(0, .ref a0), (1, .int x1)]) rfl ?_
      exact eX13_valley_88 n S a0 x1 _ _ h
    · refine re_icmp_ge_f (pc := 67) 88 (by decide +kernel : decode cX13_valley 67 = .ok (.if_icmp .ge 21, 3)) (by decide) g1_ ?_
      refine re_aloadn (pc := 70) 0 (by decide +kernel : decode cX13_valley 70 = .ok (.aload_n 0, 1)) rfl ?_
      obtain ⟨a2_, g3_, h⟩ := rv_b_e h
      refine re_gR (pc := 71) g3_ lfX13_13 rfl (by decide +kernel : decode cX13_valley 71 = .ok (.getfield 13, 3)) ?_
      refine re_iloadn (pc := 74) 2 (by decide +kernel : decode cX13_valley 74 = .ok (.iload_n 2, 1)) rfl ?_
      refine re_aloadn (pc := 75) 0 (by decide +kernel : decode cX13_valley 75 = .ok (.aload_n 0, 1)) rfl ?_
      obtain ⟨a4_, g5_, h⟩ := rv_b_e h
      refine re_gR (pc := 76) g5_ lfX13_16 rfl (by decide +kernel : decode cX13_valley 76 = .ok (.getfield 16, 3)) ?_
      refine re_iloadn (pc := 79) 2 (by decide +kernel : decode cX13_valley 79 = .ok (.iload_n 2, 1)) rfl ?_
      obtain ⟨x6_, g7_, h⟩ := rv_b_e h
      refine re_aI (pc := 80) g7_ (by decide +kernel : decode cX13_valley 80 = .ok (.iaload, 1)) ?_
      obtain ⟨S8_, g9_, h⟩ := rv_b_e h
      refine re_uI (pc := 81) g9_ (by decide +kernel : decode cX13_valley 81 = .ok (.iastore, 1)) ?_
      obtain ⟨x10_, g11_, h⟩ := rv_lt_e h
      refine re_iinc (pc := 82) 2 x10_ (lv1 := [(2, .int x10_), (0, .ref a0), (1, .int x1)]) (by decide +kernel : decode cX13_valley 82 = .ok (.iinc 2 1, 3)) rfl g11_ (by decide) rfl ?_
      refine re_goto (pc := 85) 63 (by decide +kernel : decode cX13_valley 85 = .ok (.goto (-22), 3)) (by decide) ?_
      refine re_sub [1, 2, 0] (lv1 := [(0, .ref a0), (1, .int x1), (2, .int x10_)]) rfl ?_
      exact ih S8_ a0 x1 x10_ _ _ h
noncomputable def cX13_valley_48 (n : Nat) (S : rvS) (a0 : Nat) (x1 : Int32) : Option (Int32 × rvS) :=
  (rv_gR S 11 a0 15).bind fun a1_ =>
  (rv_gR S 11 a0 15).bind fun a3_ =>
  (rv_aI S 0 a3_ (0 : Int32)).bind fun x5_ =>
  (rv_uI S a1_ (6 : Int32) x5_).bind fun S7_ =>
  cX13_valley_63 n n S7_ a0 x1 (0 : Int32)
set_option maxRecDepth 20000 in
set_option maxHeartbeats 4000000 in
theorem eX13_valley_48 (n : Nat) (S : rvS) (a0 : Nat) (x1 : Int32) (r : Int32) (S' : rvS) (h : cX13_valley_48 n S a0 x1 = some (r, S')) : rv_Ev mX13_valley 6 48 [(0, .ref a0), (1, .int x1)] [] S (some (.int r)) S' := by
  unfold cX13_valley_48 at h
  refine re_aloadn (pc := 48) 0 (by decide +kernel : decode cX13_valley 48 = .ok (.aload_n 0, 1)) rfl ?_
  obtain ⟨a1_, g2_, h⟩ := rv_b_e h
  refine re_gR (pc := 49) g2_ lfX13_16 rfl (by decide +kernel : decode cX13_valley 49 = .ok (.getfield 16, 3)) ?_
  refine re_bipush (pc := 52) (6 : Int32) (by decide +kernel : decode cX13_valley 52 = .ok (.bipush 6, 2)) (by decide) ?_
  refine re_aloadn (pc := 54) 0 (by decide +kernel : decode cX13_valley 54 = .ok (.aload_n 0, 1)) rfl ?_
  obtain ⟨a3_, g4_, h⟩ := rv_b_e h
  refine re_gR (pc := 55) g4_ lfX13_16 rfl (by decide +kernel : decode cX13_valley 55 = .ok (.getfield 16, 3)) ?_
  refine re_iconst (pc := 58) (0 : Int32) (by decide +kernel : decode cX13_valley 58 = .ok (.iconst 0, 1)) (by decide) ?_
  obtain ⟨x5_, g6_, h⟩ := rv_b_e h
  refine re_aI (pc := 59) g6_ (by decide +kernel : decode cX13_valley 59 = .ok (.iaload, 1)) ?_
  obtain ⟨S7_, g8_, h⟩ := rv_b_e h
  refine re_uI (pc := 60) g8_ (by decide +kernel : decode cX13_valley 60 = .ok (.iastore, 1)) ?_
  refine re_iconst (pc := 61) (0 : Int32) (by decide +kernel : decode cX13_valley 61 = .ok (.iconst 0, 1)) (by decide) ?_
  refine re_istoren (pc := 62) (lv1 := [(2, .int (0 : Int32)), (0, .ref a0), (1, .int x1)]) (by decide +kernel : decode cX13_valley 62 = .ok (.istore_n 2, 1)) rfl (by decide) rfl ?_
  refine re_sub [1, 2, 0] (lv1 := [(0, .ref a0), (1, .int x1), (2, .int (0 : Int32))]) rfl ?_
  exact eX13_valley_63 n n S7_ a0 x1 (0 : Int32) _ _ h
noncomputable def cX13_valley_21 (n : Nat) : Nat → rvS → Nat → Int32 → Option (Int32 × rvS)
  | 0, _, _, _ => none
  | k + 1, S, a0, x1 =>
    (rv_gI S 11 a0 7).bind fun x1_ =>
    if x1_ = 0 then (
      cX13_valley_48 n S a0 x1)
    else (
      (rv_ck S 11 a0).bind fun u4_ =>
      rv_bp (fnX13_readLine n S a0) fun x7_ S8_ =>
      if x7_ = 0 then (
        (rv_gI S8_ 11 a0 11).bind fun x14_ =>
        some ((-1 : Int32) - x14_, S8_))
      else (
        rv_lt (x1 + (1)) fun x12_ =>
        cX13_valley_21 n k S8_ a0 x12_))
set_option maxRecDepth 20000 in
set_option maxHeartbeats 4000000 in
theorem eX13_valley_21 (n : Nat) : ∀ (k : Nat) (S : rvS) (a0 : Nat) (x1 : Int32) (r : Int32) (S' : rvS), cX13_valley_21 n k S a0 x1 = some (r, S') → rv_Ev mX13_valley 6 21 [(0, .ref a0), (1, .int x1)] [] S (some (.int r)) S' := by
  intro k
  induction k with
  | zero => intro S a0 x1 r S' h; exact absurd h (by simp [cX13_valley_21])
  | succ k ih =>
    intro S a0 x1 r S' h
    unfold cX13_valley_21 at h
    refine re_aloadn (pc := 21) 0 (by decide +kernel : decode cX13_valley 21 = .ok (.aload_n 0, 1)) rfl ?_
    obtain ⟨x1_, g2_, h⟩ := rv_b_e h
    refine re_gI (pc := 22) g2_ lfX13_121 rfl (by decide +kernel : decode cX13_valley 22 = .ok (.getfield 121, 3)) ?_
    rcases rv_if_e h with ⟨g3_, h⟩ | ⟨g3_, h⟩
    · refine re_if_eq_t (pc := 25) 48 (by decide +kernel : decode cX13_valley 25 = .ok (.ifCond .eq 23, 3)) (by decide) g3_ ?_
      exact eX13_valley_48 n S a0 x1 _ _ h
    · refine re_if_eq_f (pc := 25) 48 (by decide +kernel : decode cX13_valley 25 = .ok (.ifCond .eq 23, 3)) (by decide) g3_ ?_
      refine re_aloadn (pc := 28) 0 (by decide +kernel : decode cX13_valley 28 = .ok (.aload_n 0, 1)) rfl ?_
      obtain ⟨u4_, g5_, h⟩ := rv_b_e h
      obtain ⟨x7_, S8_, g9_, h⟩ := rv_bp_e h
      have m6_ := metX13_readLine n S a0 _ _ g9_
      have z10_ : rv_same S S8_ := m6_.sh rfl
      refine re_cV (pc := 29) [] m6_ (rv_okl.k z10_) (rv_up.sh z10_) (by decide) (rv_ck_e g5_) ⟨by decide, rfl⟩ (Nat.le_of_ble_eq_true rfl) lVX13_252 rfl (by decide +kernel : decode cX13_valley 29 = .ok (.invokevirtual 252, 3)) ?_
      rcases rv_if_e h with ⟨g11_, h⟩ | ⟨g11_, h⟩
      · refine re_if_ne_f (pc := 32) 42 (by decide +kernel : decode cX13_valley 32 = .ok (.ifCond .ne 10, 3)) (by decide) g11_ ?_
        refine re_iconst (pc := 35) (-1 : Int32) (by decide +kernel : decode cX13_valley 35 = .ok (.iconst (-1), 1)) (by decide) ?_
        refine re_aloadn (pc := 36) 0 (by decide +kernel : decode cX13_valley 36 = .ok (.aload_n 0, 1)) rfl ?_
        obtain ⟨x14_, g15_, h⟩ := rv_b_e h
        refine re_gI (pc := 37) g15_ lfX13_164 rfl (by decide +kernel : decode cX13_valley 37 = .ok (.getfield 164, 3)) ?_
        refine re_isub (pc := 40) (by decide +kernel : decode cX13_valley 40 = .ok (.isub, 1)) ?_
        obtain ⟨h1_, h2_⟩ := Prod.mk.inj (Option.some.inj h); subst h1_; subst h2_
        exact re_iret (fun ty hty => by cases hty; rfl) (by decide +kernel : decode cX13_valley 41 = .ok (.ireturn, 1))
      · refine re_if_ne_t (pc := 32) 42 (by decide +kernel : decode cX13_valley 32 = .ok (.ifCond .ne 10, 3)) (by decide) g11_ ?_
        obtain ⟨x12_, g13_, h⟩ := rv_lt_e h
        refine re_iinc (pc := 42) 1 x12_ (lv1 := [(1, .int x12_), (0, .ref a0)]) (by decide +kernel : decode cX13_valley 42 = .ok (.iinc 1 1, 3)) rfl g13_ (by decide) rfl ?_
        refine re_goto (pc := 45) 21 (by decide +kernel : decode cX13_valley 45 = .ok (.goto (-24), 3)) (by decide) ?_
        refine re_sub [1, 0] (lv1 := [(0, .ref a0), (1, .int x12_)]) rfl ?_
        exact ih S8_ a0 x12_ _ _ h
noncomputable def fnX13_valley (n : Nat) (S : rvS) (a0 : Nat) : Option (Int32 × rvS) :=
  (rv_ck S 11 a0).bind fun u1_ =>
  (fnX13_begin n S a0 (900 : Int32)).bind fun S4_ =>
  (rv_gR S4_ 11 a0 15).bind fun a7_ =>
  (fnX13_plain n S4_ a7_).bind fun S10_ =>
  (rv_pI S10_ 11 a0 23 (0 : Int32)).bind fun S13_ =>
  cX13_valley_21 n n S13_ a0 (0 : Int32)
set_option maxRecDepth 20000 in
set_option maxHeartbeats 4000000 in
theorem eX13_valley_in (n : Nat) (S : rvS) (a0 : Nat) (r : Int32) (S' : rvS) (h : fnX13_valley n S a0 = some (r, S')) : rv_Ev mX13_valley 6 0 [(0, .ref a0)] [] S (some (.int r)) S' := by
  unfold fnX13_valley at h
  refine re_aloadn (pc := 0) 0 (by decide +kernel : decode cX13_valley 0 = .ok (.aload_n 0, 1)) rfl ?_
  refine re_sipush (pc := 1) (900 : Int32) (by decide +kernel : decode cX13_valley 1 = .ok (.sipush 900, 3)) (by decide) ?_
  obtain ⟨u1_, g2_, h⟩ := rv_b_e h
  obtain ⟨S4_, g5_, h⟩ := rv_b_e h
  have m3_ := metX13_begin n S a0 (900 : Int32) _ g5_
  have z6_ : rv_same S S4_ := m3_.sh rfl
  refine re_cV (pc := 4) [.int (900 : Int32)] m3_ (rv_okl.k z6_) (rv_up.sh z6_) (by decide) (rv_ck_e g2_) ⟨by decide, rfl⟩ (Nat.le_of_ble_eq_true rfl) lVX13_249 rfl (by decide +kernel : decode cX13_valley 4 = .ok (.invokevirtual 249, 3)) ?_
  refine re_aloadn (pc := 7) 0 (by decide +kernel : decode cX13_valley 7 = .ok (.aload_n 0, 1)) rfl ?_
  obtain ⟨a7_, g8_, h⟩ := rv_b_e h
  refine re_gR (pc := 8) g8_ lfX13_16 rfl (by decide +kernel : decode cX13_valley 8 = .ok (.getfield 16, 3)) ?_
  obtain ⟨S10_, g11_, h⟩ := rv_b_e h
  have m9_ := metX13_plain n S4_ a7_ _ g11_
  have z12_ : rv_same S4_ S10_ := m9_.sh rfl
  refine re_cS (pc := 11) [.ref a7_] m9_ (rv_okl.k z12_) (rv_up.sh z12_) (by decide) (Nat.le_of_ble_eq_true rfl) lSX13_198 rfl (by decide +kernel : decode cX13_valley 11 = .ok (.invokestatic 198, 3)) ?_
  refine re_aloadn (pc := 14) 0 (by decide +kernel : decode cX13_valley 14 = .ok (.aload_n 0, 1)) rfl ?_
  refine re_iconst (pc := 15) (0 : Int32) (by decide +kernel : decode cX13_valley 15 = .ok (.iconst 0, 1)) (by decide) ?_
  obtain ⟨S13_, g14_, h⟩ := rv_b_e h
  refine re_pI (pc := 16) g14_ lfX13_202 rfl rfl rfl rfl (by decide +kernel : decode cX13_valley 16 = .ok (.putfield 202, 3)) ?_
  refine re_iconst (pc := 19) (0 : Int32) (by decide +kernel : decode cX13_valley 19 = .ok (.iconst 0, 1)) (by decide) ?_
  refine re_istoren (pc := 20) (lv1 := [(1, .int (0 : Int32)), (0, .ref a0)]) (by decide +kernel : decode cX13_valley 20 = .ok (.istore_n 1, 1)) rfl (by decide) rfl ?_
  refine re_sub [1, 0] (lv1 := [(0, .ref a0), (1, .int (0 : Int32))]) rfl ?_
  exact eX13_valley_21 n n S13_ a0 (0 : Int32) _ _ h
theorem metX13_valley (n : Nat) (S : rvS) (a0 : Nat) (r : Int32) (S' : rvS) (h : fnX13_valley n S a0 = some (r, S')) : rv_Met yX13_valley mX13_valley 6 [.ref a0] S (some (.int r)) S' := rv_Met.of ⟨by decide +kernel, rfl, (fun z => by first | rfl | cases z), rfl⟩ (Nat.le_of_ble_eq_true rfl) rfl (eX13_valley_in n S a0 r S' h)
noncomputable def fnX13_fault (n : Nat) (S : rvS) (a0 : Nat) : Option (Int32 × rvS) :=
  (rv_pI S 11 a0 0 (0 : Int32)).bind fun S1_ =>
  (rv_gI S1_ 11 a0 10).bind fun x3_ =>
  some (x3_, S1_)
set_option maxRecDepth 20000 in
set_option maxHeartbeats 4000000 in
theorem eX13_fault_in (n : Nat) (S : rvS) (a0 : Nat) (r : Int32) (S' : rvS) (h : fnX13_fault n S a0 = some (r, S')) : rv_Ev mX13_fault 0 0 [(0, .ref a0)] [] S (some (.int r)) S' := by
  unfold fnX13_fault at h
  refine re_aloadn (pc := 0) 0 (by decide +kernel : decode cX13_fault 0 = .ok (.aload_n 0, 1)) rfl ?_
  refine re_iconst (pc := 1) (0 : Int32) (by decide +kernel : decode cX13_fault 1 = .ok (.iconst 0, 1)) (by decide) ?_
  obtain ⟨S1_, g2_, h⟩ := rv_b_e h
  refine re_pI (pc := 2) g2_ lfX13_99 rfl rfl rfl rfl (by decide +kernel : decode cX13_fault 2 = .ok (.putfield 99, 3)) ?_
  refine re_aloadn (pc := 5) 0 (by decide +kernel : decode cX13_fault 5 = .ok (.aload_n 0, 1)) rfl ?_
  obtain ⟨x3_, g4_, h⟩ := rv_b_e h
  refine re_gI (pc := 6) g4_ lfX13_161 rfl (by decide +kernel : decode cX13_fault 6 = .ok (.getfield 161, 3)) ?_
  cases h
  exact re_iret (fun ty hty => by cases hty; rfl) (by decide +kernel : decode cX13_fault 9 = .ok (.ireturn, 1))
theorem metX13_fault (n : Nat) (S : rvS) (a0 : Nat) (r : Int32) (S' : rvS) (h : fnX13_fault n S a0 = some (r, S')) : rv_Met yX13_fault mX13_fault 0 [.ref a0] S (some (.int r)) S' := rv_Met.of ⟨by decide +kernel, rfl, (fun z => by first | rfl | cases z), rfl⟩ (Nat.le_of_ble_eq_true rfl) rfl (eX13_fault_in n S a0 r S' h)
noncomputable def fnX13_whos (n : Nat) (S : rvS) (a0 : Nat) : Option Int32 :=
  (rv_gR S 11 a0 14).bind fun a1_ =>
  (rv_aI S 0 a1_ (0 : Int32)).bind fun x3_ =>
  some x3_
set_option maxRecDepth 20000 in
set_option maxHeartbeats 4000000 in
theorem eX13_whos_in (n : Nat) (S : rvS) (a0 : Nat) (r : Int32) (h : fnX13_whos n S a0 = some r) : rv_Ev mX13_whos 0 0 [(0, .ref a0)] [] S (some (.int r)) S := by
  unfold fnX13_whos at h
  refine re_aloadn (pc := 0) 0 (by decide +kernel : decode cX13_whos 0 = .ok (.aload_n 0, 1)) rfl ?_
  obtain ⟨a1_, g2_, h⟩ := rv_b_e h
  refine re_gR (pc := 1) g2_ lfX13_13 rfl (by decide +kernel : decode cX13_whos 1 = .ok (.getfield 13, 3)) ?_
  refine re_iconst (pc := 4) (0 : Int32) (by decide +kernel : decode cX13_whos 4 = .ok (.iconst 0, 1)) (by decide) ?_
  obtain ⟨x3_, g4_, h⟩ := rv_b_e h
  refine re_aI (pc := 5) g4_ (by decide +kernel : decode cX13_whos 5 = .ok (.iaload, 1)) ?_
  cases h
  exact re_iret (fun ty hty => by cases hty; rfl) (by decide +kernel : decode cX13_whos 6 = .ok (.ireturn, 1))
theorem metX13_whos (n : Nat) (S : rvS) (a0 : Nat) (r : Int32) (h : fnX13_whos n S a0 = some r) : rv_Met yX13_whos mX13_whos 0 [.ref a0] S (some (.int r)) S := rv_Met.of ⟨by decide +kernel, rfl, (fun z => by first | rfl | cases z), rfl⟩ (Nat.le_of_ble_eq_true rfl) rfl (eX13_whos_in n S a0 r h)
noncomputable def fnX13_coins (n : Nat) (S : rvS) (a0 : Nat) : Option Int32 :=
  (rv_gR S 11 a0 14).bind fun a1_ =>
  (rv_aI S 0 a1_ (1 : Int32)).bind fun x3_ =>
  some x3_
set_option maxRecDepth 20000 in
set_option maxHeartbeats 4000000 in
theorem eX13_coins_in (n : Nat) (S : rvS) (a0 : Nat) (r : Int32) (h : fnX13_coins n S a0 = some r) : rv_Ev mX13_coins 0 0 [(0, .ref a0)] [] S (some (.int r)) S := by
  unfold fnX13_coins at h
  refine re_aloadn (pc := 0) 0 (by decide +kernel : decode cX13_coins 0 = .ok (.aload_n 0, 1)) rfl ?_
  obtain ⟨a1_, g2_, h⟩ := rv_b_e h
  refine re_gR (pc := 1) g2_ lfX13_13 rfl (by decide +kernel : decode cX13_coins 1 = .ok (.getfield 13, 3)) ?_
  refine re_iconst (pc := 4) (1 : Int32) (by decide +kernel : decode cX13_coins 4 = .ok (.iconst 1, 1)) (by decide) ?_
  obtain ⟨x3_, g4_, h⟩ := rv_b_e h
  refine re_aI (pc := 5) g4_ (by decide +kernel : decode cX13_coins 5 = .ok (.iaload, 1)) ?_
  cases h
  exact re_iret (fun ty hty => by cases hty; rfl) (by decide +kernel : decode cX13_coins 6 = .ok (.ireturn, 1))
theorem metX13_coins (n : Nat) (S : rvS) (a0 : Nat) (r : Int32) (h : fnX13_coins n S a0 = some r) : rv_Met yX13_coins mX13_coins 0 [.ref a0] S (some (.int r)) S := rv_Met.of ⟨by decide +kernel, rfl, (fun z => by first | rfl | cases z), rfl⟩ (Nat.le_of_ble_eq_true rfl) rfl (eX13_coins_in n S a0 r h)
noncomputable def fnX13_isWho (n : Nat) (S : rvS) (a0 : Nat) (x1 : Int32) : Option Int32 :=
  if x1 < 0 then (
    some (0 : Int32))
  else (
    (rv_ck S 11 a0).bind fun u2_ =>
    (fnX13_whos n S a0).bind fun x5_ =>
    if x5_ ≤ x1 then (
      some (0 : Int32))
    else (
      some (1 : Int32)))
set_option maxRecDepth 20000 in
set_option maxHeartbeats 4000000 in
theorem eX13_isWho_in (n : Nat) (S : rvS) (a0 : Nat) (x1 : Int32) (r : Int32) (h : fnX13_isWho n S a0 x1 = some r) : rv_Ev mX13_isWho 1 0 [(0, .ref a0), (1, .int x1)] [] S (some (.int r)) S := by
  unfold fnX13_isWho at h
  refine re_iloadn (pc := 0) 1 (by decide +kernel : decode cX13_isWho 0 = .ok (.iload_n 1, 1)) rfl ?_
  rcases rv_if_e h with ⟨g1_, h⟩ | ⟨g1_, h⟩
  · refine re_if_lt_t (pc := 1) 16 (by decide +kernel : decode cX13_isWho 1 = .ok (.ifCond .lt 15, 3)) (by decide) g1_ ?_
    refine re_iconst (pc := 16) (0 : Int32) (by decide +kernel : decode cX13_isWho 16 = .ok (.iconst 0, 1)) (by decide) ?_
    cases h
    exact re_iret (fun ty hty => by cases hty; rfl) (by decide +kernel : decode cX13_isWho 17 = .ok (.ireturn, 1))
  · refine re_if_lt_f (pc := 1) 16 (by decide +kernel : decode cX13_isWho 1 = .ok (.ifCond .lt 15, 3)) (by decide) g1_ ?_
    refine re_iloadn (pc := 4) 1 (by decide +kernel : decode cX13_isWho 4 = .ok (.iload_n 1, 1)) rfl ?_
    refine re_aloadn (pc := 5) 0 (by decide +kernel : decode cX13_isWho 5 = .ok (.aload_n 0, 1)) rfl ?_
    obtain ⟨u2_, g3_, h⟩ := rv_b_e h
    obtain ⟨x5_, g6_, h⟩ := rv_b_e h
    have m4_ := metX13_whos n S a0 _ g6_
    refine re_cV (pc := 6) [] m4_ (rv_okl.k ⟨rfl, rfl⟩) (rv_up.rf _ _) (by decide) (rv_ck_e g3_) ⟨by decide, rfl⟩ (Nat.le_of_ble_eq_true rfl) lVX13_255 rfl (by decide +kernel : decode cX13_isWho 6 = .ok (.invokevirtual 255, 3)) ?_
    rcases rv_if_e h with ⟨g7_, h⟩ | ⟨g7_, h⟩
    · refine re_icmp_ge_t (pc := 9) 16 (by decide +kernel : decode cX13_isWho 9 = .ok (.if_icmp .ge 7, 3)) (by decide) g7_ ?_
      refine re_iconst (pc := 16) (0 : Int32) (by decide +kernel : decode cX13_isWho 16 = .ok (.iconst 0, 1)) (by decide) ?_
      cases h
      exact re_iret (fun ty hty => by cases hty; rfl) (by decide +kernel : decode cX13_isWho 17 = .ok (.ireturn, 1))
    · refine re_icmp_ge_f (pc := 9) 16 (by decide +kernel : decode cX13_isWho 9 = .ok (.if_icmp .ge 7, 3)) (by decide) g7_ ?_
      refine re_iconst (pc := 12) (1 : Int32) (by decide +kernel : decode cX13_isWho 12 = .ok (.iconst 1, 1)) (by decide) ?_
      refine re_goto (pc := 13) 17 (by decide +kernel : decode cX13_isWho 13 = .ok (.goto 4, 3)) (by decide) ?_
      cases h
      exact re_iret (fun ty hty => by cases hty; rfl) (by decide +kernel : decode cX13_isWho 17 = .ok (.ireturn, 1))
theorem metX13_isWho (n : Nat) (S : rvS) (a0 : Nat) (x1 : Int32) (r : Int32) (h : fnX13_isWho n S a0 x1 = some r) : rv_Met yX13_isWho mX13_isWho 1 [.ref a0, .int x1] S (some (.int r)) S := rv_Met.of ⟨by decide +kernel, rfl, (fun z => by first | rfl | cases z), rfl⟩ (Nat.le_of_ble_eq_true rfl) rfl (eX13_isWho_in n S a0 x1 r h)
noncomputable def fnX13_isCoin (n : Nat) (S : rvS) (a0 : Nat) (x1 : Int32) : Option Int32 :=
  if x1 < 0 then (
    some (0 : Int32))
  else (
    (rv_ck S 11 a0).bind fun u2_ =>
    (fnX13_coins n S a0).bind fun x5_ =>
    if x5_ ≤ x1 then (
      some (0 : Int32))
    else (
      some (1 : Int32)))
set_option maxRecDepth 20000 in
set_option maxHeartbeats 4000000 in
theorem eX13_isCoin_in (n : Nat) (S : rvS) (a0 : Nat) (x1 : Int32) (r : Int32) (h : fnX13_isCoin n S a0 x1 = some r) : rv_Ev mX13_isCoin 1 0 [(0, .ref a0), (1, .int x1)] [] S (some (.int r)) S := by
  unfold fnX13_isCoin at h
  refine re_iloadn (pc := 0) 1 (by decide +kernel : decode cX13_isCoin 0 = .ok (.iload_n 1, 1)) rfl ?_
  rcases rv_if_e h with ⟨g1_, h⟩ | ⟨g1_, h⟩
  · refine re_if_lt_t (pc := 1) 16 (by decide +kernel : decode cX13_isCoin 1 = .ok (.ifCond .lt 15, 3)) (by decide) g1_ ?_
    refine re_iconst (pc := 16) (0 : Int32) (by decide +kernel : decode cX13_isCoin 16 = .ok (.iconst 0, 1)) (by decide) ?_
    cases h
    exact re_iret (fun ty hty => by cases hty; rfl) (by decide +kernel : decode cX13_isCoin 17 = .ok (.ireturn, 1))
  · refine re_if_lt_f (pc := 1) 16 (by decide +kernel : decode cX13_isCoin 1 = .ok (.ifCond .lt 15, 3)) (by decide) g1_ ?_
    refine re_iloadn (pc := 4) 1 (by decide +kernel : decode cX13_isCoin 4 = .ok (.iload_n 1, 1)) rfl ?_
    refine re_aloadn (pc := 5) 0 (by decide +kernel : decode cX13_isCoin 5 = .ok (.aload_n 0, 1)) rfl ?_
    obtain ⟨u2_, g3_, h⟩ := rv_b_e h
    obtain ⟨x5_, g6_, h⟩ := rv_b_e h
    have m4_ := metX13_coins n S a0 _ g6_
    refine re_cV (pc := 6) [] m4_ (rv_okl.k ⟨rfl, rfl⟩) (rv_up.rf _ _) (by decide) (rv_ck_e g3_) ⟨by decide, rfl⟩ (Nat.le_of_ble_eq_true rfl) lVX13_258 rfl (by decide +kernel : decode cX13_isCoin 6 = .ok (.invokevirtual 258, 3)) ?_
    rcases rv_if_e h with ⟨g7_, h⟩ | ⟨g7_, h⟩
    · refine re_icmp_ge_t (pc := 9) 16 (by decide +kernel : decode cX13_isCoin 9 = .ok (.if_icmp .ge 7, 3)) (by decide) g7_ ?_
      refine re_iconst (pc := 16) (0 : Int32) (by decide +kernel : decode cX13_isCoin 16 = .ok (.iconst 0, 1)) (by decide) ?_
      cases h
      exact re_iret (fun ty hty => by cases hty; rfl) (by decide +kernel : decode cX13_isCoin 17 = .ok (.ireturn, 1))
    · refine re_icmp_ge_f (pc := 9) 16 (by decide +kernel : decode cX13_isCoin 9 = .ok (.if_icmp .ge 7, 3)) (by decide) g7_ ?_
      refine re_iconst (pc := 12) (1 : Int32) (by decide +kernel : decode cX13_isCoin 12 = .ok (.iconst 1, 1)) (by decide) ?_
      refine re_goto (pc := 13) 17 (by decide +kernel : decode cX13_isCoin 13 = .ok (.goto 4, 3)) (by decide) ?_
      cases h
      exact re_iret (fun ty hty => by cases hty; rfl) (by decide +kernel : decode cX13_isCoin 17 = .ok (.ireturn, 1))
theorem metX13_isCoin (n : Nat) (S : rvS) (a0 : Nat) (x1 : Int32) (r : Int32) (h : fnX13_isCoin n S a0 x1 = some r) : rv_Met yX13_isCoin mX13_isCoin 1 [.ref a0, .int x1] S (some (.int r)) S := rv_Met.of ⟨by decide +kernel, rfl, (fun z => by first | rfl | cases z), rfl⟩ (Nat.le_of_ble_eq_true rfl) rfl (eX13_isCoin_in n S a0 x1 r h)
noncomputable def fnX13_isVillage (n : Nat) (S : rvS) (x0 : Int32) : Option Int32 :=
  (fnX13_isIn n S x0 (0 : Int32) (3 : Int32)).bind fun x2_ =>
  (rv_bo x2_).bind fun b_ =>
  some b_
set_option maxRecDepth 20000 in
set_option maxHeartbeats 4000000 in
theorem eX13_isVillage_in (n : Nat) (S : rvS) (x0 : Int32) (r : Int32) (h : fnX13_isVillage n S x0 = some r) : rv_Ev mX13_isVillage 1 0 [(0, .int x0)] [] S (some (.int r)) S := by
  unfold fnX13_isVillage at h
  refine re_iloadn (pc := 0) 0 (by decide +kernel : decode cX13_isVillage 0 = .ok (.iload_n 0, 1)) rfl ?_
  refine re_iconst (pc := 1) (0 : Int32) (by decide +kernel : decode cX13_isVillage 1 = .ok (.iconst 0, 1)) (by decide) ?_
  refine re_iconst (pc := 2) (3 : Int32) (by decide +kernel : decode cX13_isVillage 2 = .ok (.iconst 3, 1)) (by decide) ?_
  obtain ⟨x2_, g3_, h⟩ := rv_b_e h
  have m1_ := metX13_isIn n S x0 (0 : Int32) (3 : Int32) _ g3_
  refine re_cS (pc := 3) [.int x0, .int (0 : Int32), .int (3 : Int32)] m1_ (rv_okl.k ⟨rfl, rfl⟩) (rv_up.rf _ _) (by decide) (Nat.le_of_ble_eq_true rfl) lSX13_170 rfl (by decide +kernel : decode cX13_isVillage 3 = .ok (.invokestatic 170, 3)) ?_
  obtain ⟨b_, gb_, h⟩ := rv_b_e h
  obtain ⟨gb1_, gb2_⟩ := rv_bo_e gb_
  refine re_nI (pc := 6) gb1_ ?_
  cases h
  exact re_iret (fun ty hty => by cases hty; exact gb2_) (by decide +kernel : decode cX13_isVillage 6 = .ok (.ireturn, 1))
theorem metX13_isVillage (n : Nat) (S : rvS) (x0 : Int32) (r : Int32) (h : fnX13_isVillage n S x0 = some r) : rv_Met yX13_isVillage mX13_isVillage 1 [.int x0] S (some (.int r)) S := rv_Met.of ⟨by decide +kernel, rfl, (fun z => by first | rfl | cases z), rfl⟩ (Nat.le_of_ble_eq_true rfl) rfl (eX13_isVillage_in n S x0 r h)
noncomputable def fnX13_ofWho (n : Nat) (S : rvS) (a0 : Nat) (x1 : Int32) (x2 : Int32) : Option Int32 :=
  (rv_gR S 11 a0 14).bind fun a1_ =>
  (rv_aI S 0 a1_ (((8 : Int32) + ((5 : Int32) * x1)) + x2)).bind fun x3_ =>
  some x3_
set_option maxRecDepth 20000 in
set_option maxHeartbeats 4000000 in
theorem eX13_ofWho_in (n : Nat) (S : rvS) (a0 : Nat) (x1 : Int32) (x2 : Int32) (r : Int32) (h : fnX13_ofWho n S a0 x1 x2 = some r) : rv_Ev mX13_ofWho 0 0 [(0, .ref a0), (1, .int x1), (2, .int x2)] [] S (some (.int r)) S := by
  unfold fnX13_ofWho at h
  refine re_aloadn (pc := 0) 0 (by decide +kernel : decode cX13_ofWho 0 = .ok (.aload_n 0, 1)) rfl ?_
  obtain ⟨a1_, g2_, h⟩ := rv_b_e h
  refine re_gR (pc := 1) g2_ lfX13_13 rfl (by decide +kernel : decode cX13_ofWho 1 = .ok (.getfield 13, 3)) ?_
  refine re_bipush (pc := 4) (8 : Int32) (by decide +kernel : decode cX13_ofWho 4 = .ok (.bipush 8, 2)) (by decide) ?_
  refine re_iconst (pc := 6) (5 : Int32) (by decide +kernel : decode cX13_ofWho 6 = .ok (.iconst 5, 1)) (by decide) ?_
  refine re_iloadn (pc := 7) 1 (by decide +kernel : decode cX13_ofWho 7 = .ok (.iload_n 1, 1)) rfl ?_
  refine re_imul (pc := 8) (by decide +kernel : decode cX13_ofWho 8 = .ok (.imul, 1)) ?_
  refine re_iadd (pc := 9) (by decide +kernel : decode cX13_ofWho 9 = .ok (.iadd, 1)) ?_
  refine re_iloadn (pc := 10) 2 (by decide +kernel : decode cX13_ofWho 10 = .ok (.iload_n 2, 1)) rfl ?_
  refine re_iadd (pc := 11) (by decide +kernel : decode cX13_ofWho 11 = .ok (.iadd, 1)) ?_
  obtain ⟨x3_, g4_, h⟩ := rv_b_e h
  refine re_aI (pc := 12) g4_ (by decide +kernel : decode cX13_ofWho 12 = .ok (.iaload, 1)) ?_
  cases h
  exact re_iret (fun ty hty => by cases hty; rfl) (by decide +kernel : decode cX13_ofWho 13 = .ok (.ireturn, 1))
theorem metX13_ofWho (n : Nat) (S : rvS) (a0 : Nat) (x1 : Int32) (x2 : Int32) (r : Int32) (h : fnX13_ofWho n S a0 x1 x2 = some r) : rv_Met yX13_ofWho mX13_ofWho 0 [.ref a0, .int x1, .int x2] S (some (.int r)) S := rv_Met.of ⟨by decide +kernel, rfl, (fun z => by first | rfl | cases z), rfl⟩ (Nat.le_of_ble_eq_true rfl) rfl (eX13_ofWho_in n S a0 x1 x2 r h)
noncomputable def fnX13_ofCoin (n : Nat) (S : rvS) (a0 : Nat) (x1 : Int32) (x2 : Int32) : Option Int32 :=
  (rv_gR S 11 a0 14).bind fun a1_ =>
  (rv_aI S 0 a1_ (((132 : Int32) + ((6 : Int32) * x1)) + x2)).bind fun x3_ =>
  some x3_
set_option maxRecDepth 20000 in
set_option maxHeartbeats 4000000 in
theorem eX13_ofCoin_in (n : Nat) (S : rvS) (a0 : Nat) (x1 : Int32) (x2 : Int32) (r : Int32) (h : fnX13_ofCoin n S a0 x1 x2 = some r) : rv_Ev mX13_ofCoin 0 0 [(0, .ref a0), (1, .int x1), (2, .int x2)] [] S (some (.int r)) S := by
  unfold fnX13_ofCoin at h
  refine re_aloadn (pc := 0) 0 (by decide +kernel : decode cX13_ofCoin 0 = .ok (.aload_n 0, 1)) rfl ?_
  obtain ⟨a1_, g2_, h⟩ := rv_b_e h
  refine re_gR (pc := 1) g2_ lfX13_13 rfl (by decide +kernel : decode cX13_ofCoin 1 = .ok (.getfield 13, 3)) ?_
  refine re_sipush (pc := 4) (132 : Int32) (by decide +kernel : decode cX13_ofCoin 4 = .ok (.sipush 132, 3)) (by decide) ?_
  refine re_bipush (pc := 7) (6 : Int32) (by decide +kernel : decode cX13_ofCoin 7 = .ok (.bipush 6, 2)) (by decide) ?_
  refine re_iloadn (pc := 9) 1 (by decide +kernel : decode cX13_ofCoin 9 = .ok (.iload_n 1, 1)) rfl ?_
  refine re_imul (pc := 10) (by decide +kernel : decode cX13_ofCoin 10 = .ok (.imul, 1)) ?_
  refine re_iadd (pc := 11) (by decide +kernel : decode cX13_ofCoin 11 = .ok (.iadd, 1)) ?_
  refine re_iloadn (pc := 12) 2 (by decide +kernel : decode cX13_ofCoin 12 = .ok (.iload_n 2, 1)) rfl ?_
  refine re_iadd (pc := 13) (by decide +kernel : decode cX13_ofCoin 13 = .ok (.iadd, 1)) ?_
  obtain ⟨x3_, g4_, h⟩ := rv_b_e h
  refine re_aI (pc := 14) g4_ (by decide +kernel : decode cX13_ofCoin 14 = .ok (.iaload, 1)) ?_
  cases h
  exact re_iret (fun ty hty => by cases hty; rfl) (by decide +kernel : decode cX13_ofCoin 15 = .ok (.ireturn, 1))
theorem metX13_ofCoin (n : Nat) (S : rvS) (a0 : Nat) (x1 : Int32) (x2 : Int32) (r : Int32) (h : fnX13_ofCoin n S a0 x1 x2 = some r) : rv_Met yX13_ofCoin mX13_ofCoin 0 [.ref a0, .int x1, .int x2] S (some (.int r)) S := rv_Met.of ⟨by decide +kernel, rfl, (fun z => by first | rfl | cases z), rfl⟩ (Nat.le_of_ble_eq_true rfl) rfl (eX13_ofCoin_in n S a0 x1 x2 r h)
noncomputable def fnX13_isDead (n : Nat) (S : rvS) (a0 : Nat) (x1 : Int32) : Option Int32 :=
  (rv_ck S 11 a0).bind fun u1_ =>
  (fnX13_ofWho n S a0 x1 (2 : Int32)).bind fun x4_ =>
  if x4_ ≤ 0 then (
    some (0 : Int32))
  else (
    some (1 : Int32))
set_option maxRecDepth 20000 in
set_option maxHeartbeats 4000000 in
theorem eX13_isDead_in (n : Nat) (S : rvS) (a0 : Nat) (x1 : Int32) (r : Int32) (h : fnX13_isDead n S a0 x1 = some r) : rv_Ev mX13_isDead 1 0 [(0, .ref a0), (1, .int x1)] [] S (some (.int r)) S := by
  unfold fnX13_isDead at h
  refine re_aloadn (pc := 0) 0 (by decide +kernel : decode cX13_isDead 0 = .ok (.aload_n 0, 1)) rfl ?_
  refine re_iloadn (pc := 1) 1 (by decide +kernel : decode cX13_isDead 1 = .ok (.iload_n 1, 1)) rfl ?_
  refine re_iconst (pc := 2) (2 : Int32) (by decide +kernel : decode cX13_isDead 2 = .ok (.iconst 2, 1)) (by decide) ?_
  obtain ⟨u1_, g2_, h⟩ := rv_b_e h
  obtain ⟨x4_, g5_, h⟩ := rv_b_e h
  have m3_ := metX13_ofWho n S a0 x1 (2 : Int32) _ g5_
  refine re_cV (pc := 3) [.int x1, .int (2 : Int32)] m3_ (rv_okl.k ⟨rfl, rfl⟩) (rv_up.rf _ _) (by decide) (rv_ck_e g2_) ⟨by decide, rfl⟩ (Nat.le_of_ble_eq_true rfl) lVX13_261 rfl (by decide +kernel : decode cX13_isDead 3 = .ok (.invokevirtual 261, 3)) ?_
  rcases rv_if_e h with ⟨g6_, h⟩ | ⟨g6_, h⟩
  · refine re_if_le_t (pc := 6) 13 (by decide +kernel : decode cX13_isDead 6 = .ok (.ifCond .le 7, 3)) (by decide) g6_ ?_
    refine re_iconst (pc := 13) (0 : Int32) (by decide +kernel : decode cX13_isDead 13 = .ok (.iconst 0, 1)) (by decide) ?_
    cases h
    exact re_iret (fun ty hty => by cases hty; rfl) (by decide +kernel : decode cX13_isDead 14 = .ok (.ireturn, 1))
  · refine re_if_le_f (pc := 6) 13 (by decide +kernel : decode cX13_isDead 6 = .ok (.ifCond .le 7, 3)) (by decide) g6_ ?_
    refine re_iconst (pc := 9) (1 : Int32) (by decide +kernel : decode cX13_isDead 9 = .ok (.iconst 1, 1)) (by decide) ?_
    refine re_goto (pc := 10) 14 (by decide +kernel : decode cX13_isDead 10 = .ok (.goto 4, 3)) (by decide) ?_
    cases h
    exact re_iret (fun ty hty => by cases hty; rfl) (by decide +kernel : decode cX13_isDead 14 = .ok (.ireturn, 1))
theorem metX13_isDead (n : Nat) (S : rvS) (a0 : Nat) (x1 : Int32) (r : Int32) (h : fnX13_isDead n S a0 x1 = some r) : rv_Met yX13_isDead mX13_isDead 1 [.ref a0, .int x1] S (some (.int r)) S := rv_Met.of ⟨by decide +kernel, rfl, (fun z => by first | rfl | cases z), rfl⟩ (Nat.le_of_ble_eq_true rfl) rfl (eX13_isDead_in n S a0 x1 r h)
noncomputable def fnX13_areOfOneHouse (n : Nat) (S : rvS) (a0 : Nat) (x1 : Int32) (x2 : Int32) : Option Int32 :=
  if x1 = x2 then (
    some (1 : Int32))
  else (
    (rv_ck S 11 a0).bind fun u2_ =>
    (fnX13_ofWho n S a0 x1 (1 : Int32)).bind fun x5_ =>
    if x5_ = (x2 + (1 : Int32)) then (
      some (1 : Int32))
    else (
      some (0 : Int32)))
set_option maxRecDepth 20000 in
set_option maxHeartbeats 4000000 in
theorem eX13_areOfOneHouse_in (n : Nat) (S : rvS) (a0 : Nat) (x1 : Int32) (x2 : Int32) (r : Int32) (h : fnX13_areOfOneHouse n S a0 x1 x2 = some r) : rv_Ev mX13_areOfOneHouse 1 0 [(0, .ref a0), (1, .int x1), (2, .int x2)] [] S (some (.int r)) S := by
  unfold fnX13_areOfOneHouse at h
  refine re_iloadn (pc := 0) 1 (by decide +kernel : decode cX13_areOfOneHouse 0 = .ok (.iload_n 1, 1)) rfl ?_
  refine re_iloadn (pc := 1) 2 (by decide +kernel : decode cX13_areOfOneHouse 1 = .ok (.iload_n 2, 1)) rfl ?_
  rcases rv_if_e h with ⟨g1_, h⟩ | ⟨g1_, h⟩
  · refine re_icmp_eq_t (pc := 2) 17 (by decide +kernel : decode cX13_areOfOneHouse 2 = .ok (.if_icmp .eq 15, 3)) (by decide) g1_ ?_
    refine re_iconst (pc := 17) (1 : Int32) (by decide +kernel : decode cX13_areOfOneHouse 17 = .ok (.iconst 1, 1)) (by decide) ?_
    refine re_goto (pc := 18) 22 (by decide +kernel : decode cX13_areOfOneHouse 18 = .ok (.goto 4, 3)) (by decide) ?_
    cases h
    exact re_iret (fun ty hty => by cases hty; rfl) (by decide +kernel : decode cX13_areOfOneHouse 22 = .ok (.ireturn, 1))
  · refine re_icmp_eq_f (pc := 2) 17 (by decide +kernel : decode cX13_areOfOneHouse 2 = .ok (.if_icmp .eq 15, 3)) (by decide) g1_ ?_
    refine re_aloadn (pc := 5) 0 (by decide +kernel : decode cX13_areOfOneHouse 5 = .ok (.aload_n 0, 1)) rfl ?_
    refine re_iloadn (pc := 6) 1 (by decide +kernel : decode cX13_areOfOneHouse 6 = .ok (.iload_n 1, 1)) rfl ?_
    refine re_iconst (pc := 7) (1 : Int32) (by decide +kernel : decode cX13_areOfOneHouse 7 = .ok (.iconst 1, 1)) (by decide) ?_
    obtain ⟨u2_, g3_, h⟩ := rv_b_e h
    obtain ⟨x5_, g6_, h⟩ := rv_b_e h
    have m4_ := metX13_ofWho n S a0 x1 (1 : Int32) _ g6_
    refine re_cV (pc := 8) [.int x1, .int (1 : Int32)] m4_ (rv_okl.k ⟨rfl, rfl⟩) (rv_up.rf _ _) (by decide) (rv_ck_e g3_) ⟨by decide, rfl⟩ (Nat.le_of_ble_eq_true rfl) lVX13_261 rfl (by decide +kernel : decode cX13_areOfOneHouse 8 = .ok (.invokevirtual 261, 3)) ?_
    refine re_iloadn (pc := 11) 2 (by decide +kernel : decode cX13_areOfOneHouse 11 = .ok (.iload_n 2, 1)) rfl ?_
    refine re_iconst (pc := 12) (1 : Int32) (by decide +kernel : decode cX13_areOfOneHouse 12 = .ok (.iconst 1, 1)) (by decide) ?_
    refine re_iadd (pc := 13) (by decide +kernel : decode cX13_areOfOneHouse 13 = .ok (.iadd, 1)) ?_
    rcases rv_if_e h with ⟨g7_, h⟩ | ⟨g7_, h⟩
    · refine re_icmp_ne_f (pc := 14) 21 (by decide +kernel : decode cX13_areOfOneHouse 14 = .ok (.if_icmp .ne 7, 3)) (by decide) g7_ ?_
      refine re_iconst (pc := 17) (1 : Int32) (by decide +kernel : decode cX13_areOfOneHouse 17 = .ok (.iconst 1, 1)) (by decide) ?_
      refine re_goto (pc := 18) 22 (by decide +kernel : decode cX13_areOfOneHouse 18 = .ok (.goto 4, 3)) (by decide) ?_
      cases h
      exact re_iret (fun ty hty => by cases hty; rfl) (by decide +kernel : decode cX13_areOfOneHouse 22 = .ok (.ireturn, 1))
    · refine re_icmp_ne_t (pc := 14) 21 (by decide +kernel : decode cX13_areOfOneHouse 14 = .ok (.if_icmp .ne 7, 3)) (by decide) g7_ ?_
      refine re_iconst (pc := 21) (0 : Int32) (by decide +kernel : decode cX13_areOfOneHouse 21 = .ok (.iconst 0, 1)) (by decide) ?_
      cases h
      exact re_iret (fun ty hty => by cases hty; rfl) (by decide +kernel : decode cX13_areOfOneHouse 22 = .ok (.ireturn, 1))
theorem metX13_areOfOneHouse (n : Nat) (S : rvS) (a0 : Nat) (x1 : Int32) (x2 : Int32) (r : Int32) (h : fnX13_areOfOneHouse n S a0 x1 x2 = some r) : rv_Met yX13_areOfOneHouse mX13_areOfOneHouse 1 [.ref a0, .int x1, .int x2] S (some (.int r)) S := rv_Met.of ⟨by decide +kernel, rfl, (fun z => by first | rfl | cases z), rfl⟩ (Nat.le_of_ble_eq_true rfl) rfl (eX13_areOfOneHouse_in n S a0 x1 x2 r h)
noncomputable def fnX13_areNear (n : Nat) (S : rvS) (a0 : Nat) (x1 : Int32) (x2 : Int32) : Option Int32 :=
  (rv_gR S 11 a0 14).bind fun a1_ =>
  (rv_aI S 0 a1_ ((128 : Int32) + x1)).bind fun x3_ =>
  (fnX13_has n S x3_ x2).bind fun x6_ =>
  (rv_bo x6_).bind fun b_ =>
  some b_
set_option maxRecDepth 20000 in
set_option maxHeartbeats 4000000 in
theorem eX13_areNear_in (n : Nat) (S : rvS) (a0 : Nat) (x1 : Int32) (x2 : Int32) (r : Int32) (h : fnX13_areNear n S a0 x1 x2 = some r) : rv_Ev mX13_areNear 1 0 [(0, .ref a0), (1, .int x1), (2, .int x2)] [] S (some (.int r)) S := by
  unfold fnX13_areNear at h
  refine re_aloadn (pc := 0) 0 (by decide +kernel : decode cX13_areNear 0 = .ok (.aload_n 0, 1)) rfl ?_
  obtain ⟨a1_, g2_, h⟩ := rv_b_e h
  refine re_gR (pc := 1) g2_ lfX13_13 rfl (by decide +kernel : decode cX13_areNear 1 = .ok (.getfield 13, 3)) ?_
  refine re_sipush (pc := 4) (128 : Int32) (by decide +kernel : decode cX13_areNear 4 = .ok (.sipush 128, 3)) (by decide) ?_
  refine re_iloadn (pc := 7) 1 (by decide +kernel : decode cX13_areNear 7 = .ok (.iload_n 1, 1)) rfl ?_
  refine re_iadd (pc := 8) (by decide +kernel : decode cX13_areNear 8 = .ok (.iadd, 1)) ?_
  obtain ⟨x3_, g4_, h⟩ := rv_b_e h
  refine re_aI (pc := 9) g4_ (by decide +kernel : decode cX13_areNear 9 = .ok (.iaload, 1)) ?_
  refine re_iloadn (pc := 10) 2 (by decide +kernel : decode cX13_areNear 10 = .ok (.iload_n 2, 1)) rfl ?_
  obtain ⟨x6_, g7_, h⟩ := rv_b_e h
  have m5_ := metX13_has n S x3_ x2 _ g7_
  refine re_cS (pc := 11) [.int x3_, .int x2] m5_ (rv_okl.k ⟨rfl, rfl⟩) (rv_up.rf _ _) (by decide) (Nat.le_of_ble_eq_true rfl) lSX13_205 rfl (by decide +kernel : decode cX13_areNear 11 = .ok (.invokestatic 205, 3)) ?_
  obtain ⟨b_, gb_, h⟩ := rv_b_e h
  obtain ⟨gb1_, gb2_⟩ := rv_bo_e gb_
  refine re_nI (pc := 14) gb1_ ?_
  cases h
  exact re_iret (fun ty hty => by cases hty; exact gb2_) (by decide +kernel : decode cX13_areNear 14 = .ok (.ireturn, 1))
theorem metX13_areNear (n : Nat) (S : rvS) (a0 : Nat) (x1 : Int32) (x2 : Int32) (r : Int32) (h : fnX13_areNear n S a0 x1 x2 = some r) : rv_Met yX13_areNear mX13_areNear 1 [.ref a0, .int x1, .int x2] S (some (.int r)) S := rv_Met.of ⟨by decide +kernel, rfl, (fun z => by first | rfl | cases z), rfl⟩ (Nat.le_of_ble_eq_true rfl) rfl (eX13_areNear_in n S a0 x1 x2 r h)
noncomputable def cX13_who_21 (n : Nat) (S : rvS) (a0 : Nat) : Option (Int32 × rvS) :=
  (rv_ck S 11 a0).bind fun u1_ =>
  rv_bp (fnX13_refuse n S a0) fun x4_ S5_ =>
  some (x4_, S5_)
set_option maxRecDepth 20000 in
set_option maxHeartbeats 4000000 in
theorem eX13_who_21 (n : Nat) (S : rvS) (a0 : Nat) (r : Int32) (S' : rvS) (h : cX13_who_21 n S a0 = some (r, S')) : rv_Ev mX13_who 2 21 [(0, .ref a0)] [] S (some (.int r)) S' := by
  unfold cX13_who_21 at h
  refine re_aloadn (pc := 21) 0 (by decide +kernel : decode cX13_who 21 = .ok (.aload_n 0, 1)) rfl ?_
  obtain ⟨u1_, g2_, h⟩ := rv_b_e h
  obtain ⟨x4_, S5_, g6_, h⟩ := rv_bp_e h
  have m3_ := metX13_refuse n S a0 _ _ g6_
  have z7_ : rv_same S S5_ := m3_.sh rfl
  refine re_cV (pc := 22) [] m3_ (rv_okl.k z7_) (rv_up.sh z7_) (by decide) (rv_ck_e g2_) ⟨by decide, rfl⟩ (Nat.le_of_ble_eq_true rfl) lVX13_268 rfl (by decide +kernel : decode cX13_who 22 = .ok (.invokevirtual 268, 3)) ?_
  cases h
  exact re_iret (fun ty hty => by cases hty; rfl) (by decide +kernel : decode cX13_who 25 = .ok (.ireturn, 1))
noncomputable def cX13_who_98 (n : Nat) : Nat → rvS → Nat → Int32 → Int32 → Int32 → Int32 → Option (Int32 × rvS)
  | 0, _, _, _, _, _, _ => none
  | k + 1, S, a0, x1, x2, x3, x4 =>
    (rv_ck S 11 a0).bind fun u1_ =>
    (fnX13_coins n S a0).bind fun x4_ =>
    if x4_ ≤ x4 then (
      some (x3, S))
    else (
      (rv_ck S 11 a0).bind fun u7_ =>
      (fnX13_ofCoin n S a0 x4 (1 : Int32)).bind fun x10_ =>
      if x10_ = x1 then (
        if x2 = (4 : Int32) then (
          rv_lt (x3 + (1 : Int32)) fun x25_ =>
          rv_lt (x4 + (1)) fun x27_ =>
          cX13_who_98 n k S a0 x1 x2 x25_ x27_)
        else (
          (rv_ck S 11 a0).bind fun u16_ =>
          (fnX13_ofCoin n S a0 x4 (0 : Int32)).bind fun x19_ =>
          rv_lt (x3 + x19_) fun x21_ =>
          rv_lt (x4 + (1)) fun x23_ =>
          cX13_who_98 n k S a0 x1 x2 x21_ x23_))
      else (
        rv_lt (x4 + (1)) fun x13_ =>
        cX13_who_98 n k S a0 x1 x2 x3 x13_))
set_option maxRecDepth 20000 in
set_option maxHeartbeats 4000000 in
theorem eX13_who_98 (n : Nat) : ∀ (k : Nat) (S : rvS) (a0 : Nat) (x1 : Int32) (x2 : Int32) (x3 : Int32) (x4 : Int32) (r : Int32) (S' : rvS), cX13_who_98 n k S a0 x1 x2 x3 x4 = some (r, S') → rv_Ev mX13_who 2 98 [(0, .ref a0), (1, .int x1), (2, .int x2), (3, .int x3), (4, .int x4)] [] S (some (.int r)) S' := by
  intro k
  induction k with
  | zero => intro S a0 x1 x2 x3 x4 r S' h; exact absurd h (by simp [cX13_who_98])
  | succ k ih =>
    intro S a0 x1 x2 x3 x4 r S' h
    unfold cX13_who_98 at h
    refine re_iload (pc := 98) 4 (by decide +kernel : decode cX13_who 98 = .ok (.iload 4, 2)) rfl ?_
    refine re_aloadn (pc := 100) 0 (by decide +kernel : decode cX13_who 100 = .ok (.aload_n 0, 1)) rfl ?_
    obtain ⟨u1_, g2_, h⟩ := rv_b_e h
    obtain ⟨x4_, g5_, h⟩ := rv_b_e h
    have m3_ := metX13_coins n S a0 _ g5_
    refine re_cV (pc := 101) [] m3_ (rv_okl.k ⟨rfl, rfl⟩) (rv_up.rf _ _) (by decide) (rv_ck_e g2_) ⟨by decide, rfl⟩ (Nat.le_of_ble_eq_true rfl) lVX13_258 rfl (by decide +kernel : decode cX13_who 101 = .ok (.invokevirtual 258, 3)) ?_
    rcases rv_if_e h with ⟨g6_, h⟩ | ⟨g6_, h⟩
    · refine re_icmp_ge_t (pc := 104) 143 (by decide +kernel : decode cX13_who 104 = .ok (.if_icmp .ge 39, 3)) (by decide) g6_ ?_
      refine re_iloadn (pc := 143) 3 (by decide +kernel : decode cX13_who 143 = .ok (.iload_n 3, 1)) rfl ?_
      cases h
      exact re_iret (fun ty hty => by cases hty; rfl) (by decide +kernel : decode cX13_who 144 = .ok (.ireturn, 1))
    · refine re_icmp_ge_f (pc := 104) 143 (by decide +kernel : decode cX13_who 104 = .ok (.if_icmp .ge 39, 3)) (by decide) g6_ ?_
      refine re_aloadn (pc := 107) 0 (by decide +kernel : decode cX13_who 107 = .ok (.aload_n 0, 1)) rfl ?_
      refine re_iload (pc := 108) 4 (by decide +kernel : decode cX13_who 108 = .ok (.iload 4, 2)) rfl ?_
      refine re_iconst (pc := 110) (1 : Int32) (by decide +kernel : decode cX13_who 110 = .ok (.iconst 1, 1)) (by decide) ?_
      obtain ⟨u7_, g8_, h⟩ := rv_b_e h
      obtain ⟨x10_, g11_, h⟩ := rv_b_e h
      have m9_ := metX13_ofCoin n S a0 x4 (1 : Int32) _ g11_
      refine re_cV (pc := 111) [.int x4, .int (1 : Int32)] m9_ (rv_okl.k ⟨rfl, rfl⟩) (rv_up.rf _ _) (by decide) (rv_ck_e g8_) ⟨by decide, rfl⟩ (Nat.le_of_ble_eq_true rfl) lVX13_271 rfl (by decide +kernel : decode cX13_who 111 = .ok (.invokevirtual 271, 3)) ?_
      refine re_iloadn (pc := 114) 1 (by decide +kernel : decode cX13_who 114 = .ok (.iload_n 1, 1)) rfl ?_
      rcases rv_if_e h with ⟨g12_, h⟩ | ⟨g12_, h⟩
      · refine re_icmp_ne_f (pc := 115) 137 (by decide +kernel : decode cX13_who 115 = .ok (.if_icmp .ne 22, 3)) (by decide) g12_ ?_
        refine re_iloadn (pc := 118) 3 (by decide +kernel : decode cX13_who 118 = .ok (.iload_n 3, 1)) rfl ?_
        refine re_iloadn (pc := 119) 2 (by decide +kernel : decode cX13_who 119 = .ok (.iload_n 2, 1)) rfl ?_
        refine re_iconst (pc := 120) (4 : Int32) (by decide +kernel : decode cX13_who 120 = .ok (.iconst 4, 1)) (by decide) ?_
        rcases rv_if_e h with ⟨g15_, h⟩ | ⟨g15_, h⟩
        · refine re_icmp_ne_f (pc := 121) 128 (by decide +kernel : decode cX13_who 121 = .ok (.if_icmp .ne 7, 3)) (by decide) g15_ ?_
          refine re_iconst (pc := 124) (1 : Int32) (by decide +kernel : decode cX13_who 124 = .ok (.iconst 1, 1)) (by decide) ?_
          refine re_goto (pc := 125) 135 (by decide +kernel : decode cX13_who 125 = .ok (.goto 10, 3)) (by decide) ?_
          refine re_iadd (pc := 135) (by decide +kernel : decode cX13_who 135 = .ok (.iadd, 1)) ?_
          obtain ⟨x25_, g26_, h⟩ := rv_lt_e h
          refine re_nI (pc := 136) g26_ ?_
          refine re_istoren (pc := 136) (lv1 := [(3, .int x25_), (0, .ref a0), (1, .int x1), (2, .int x2), (4, .int x4)]) (by decide +kernel : decode cX13_who 136 = .ok (.istore_n 3, 1)) rfl (by decide) rfl ?_
          obtain ⟨x27_, g28_, h⟩ := rv_lt_e h
          refine re_iinc (pc := 137) 4 x27_ (lv1 := [(4, .int x27_), (3, .int x25_), (0, .ref a0), (1, .int x1), (2, .int x2)]) (by decide +kernel : decode cX13_who 137 = .ok (.iinc 4 1, 3)) rfl g28_ (by decide) rfl ?_
          refine re_goto (pc := 140) 98 (by decide +kernel : decode cX13_who 140 = .ok (.goto (-42), 3)) (by decide) ?_
          refine re_sub [2, 3, 4, 1, 0] (lv1 := [(0, .ref a0), (1, .int x1), (2, .int x2), (3, .int x25_), (4, .int x27_)]) rfl ?_
          exact ih S a0 x1 x2 x25_ x27_ _ _ h
        · refine re_icmp_ne_t (pc := 121) 128 (by decide +kernel : decode cX13_who 121 = .ok (.if_icmp .ne 7, 3)) (by decide) g15_ ?_
          refine re_aloadn (pc := 128) 0 (by decide +kernel : decode cX13_who 128 = .ok (.aload_n 0, 1)) rfl ?_
          refine re_iload (pc := 129) 4 (by decide +kernel : decode cX13_who 129 = .ok (.iload 4, 2)) rfl ?_
          refine re_iconst (pc := 131) (0 : Int32) (by decide +kernel : decode cX13_who 131 = .ok (.iconst 0, 1)) (by decide) ?_
          obtain ⟨u16_, g17_, h⟩ := rv_b_e h
          obtain ⟨x19_, g20_, h⟩ := rv_b_e h
          have m18_ := metX13_ofCoin n S a0 x4 (0 : Int32) _ g20_
          refine re_cV (pc := 132) [.int x4, .int (0 : Int32)] m18_ (rv_okl.k ⟨rfl, rfl⟩) (rv_up.rf _ _) (by decide) (rv_ck_e g17_) ⟨by decide, rfl⟩ (Nat.le_of_ble_eq_true rfl) lVX13_271 rfl (by decide +kernel : decode cX13_who 132 = .ok (.invokevirtual 271, 3)) ?_
          refine re_iadd (pc := 135) (by decide +kernel : decode cX13_who 135 = .ok (.iadd, 1)) ?_
          obtain ⟨x21_, g22_, h⟩ := rv_lt_e h
          refine re_nI (pc := 136) g22_ ?_
          refine re_istoren (pc := 136) (lv1 := [(3, .int x21_), (0, .ref a0), (1, .int x1), (2, .int x2), (4, .int x4)]) (by decide +kernel : decode cX13_who 136 = .ok (.istore_n 3, 1)) rfl (by decide) rfl ?_
          obtain ⟨x23_, g24_, h⟩ := rv_lt_e h
          refine re_iinc (pc := 137) 4 x23_ (lv1 := [(4, .int x23_), (3, .int x21_), (0, .ref a0), (1, .int x1), (2, .int x2)]) (by decide +kernel : decode cX13_who 137 = .ok (.iinc 4 1, 3)) rfl g24_ (by decide) rfl ?_
          refine re_goto (pc := 140) 98 (by decide +kernel : decode cX13_who 140 = .ok (.goto (-42), 3)) (by decide) ?_
          refine re_sub [2, 3, 4, 1, 0] (lv1 := [(0, .ref a0), (1, .int x1), (2, .int x2), (3, .int x21_), (4, .int x23_)]) rfl ?_
          exact ih S a0 x1 x2 x21_ x23_ _ _ h
      · refine re_icmp_ne_t (pc := 115) 137 (by decide +kernel : decode cX13_who 115 = .ok (.if_icmp .ne 22, 3)) (by decide) g12_ ?_
        obtain ⟨x13_, g14_, h⟩ := rv_lt_e h
        refine re_iinc (pc := 137) 4 x13_ (lv1 := [(4, .int x13_), (0, .ref a0), (1, .int x1), (2, .int x2), (3, .int x3)]) (by decide +kernel : decode cX13_who 137 = .ok (.iinc 4 1, 3)) rfl g14_ (by decide) rfl ?_
        refine re_goto (pc := 140) 98 (by decide +kernel : decode cX13_who 140 = .ok (.goto (-42), 3)) (by decide) ?_
        refine re_sub [1, 2, 3, 4, 0] (lv1 := [(0, .ref a0), (1, .int x1), (2, .int x2), (3, .int x3), (4, .int x13_)]) rfl ?_
        exact ih S a0 x1 x2 x3 x13_ _ _ h
noncomputable def fnX13_who (n : Nat) (S : rvS) (a0 : Nat) (x1 : Int32) (x2 : Int32) : Option (Int32 × rvS) :=
  (rv_ck S 11 a0).bind fun u1_ =>
  (fnX13_lay n S a0).bind fun S4_ =>
  (rv_ck S4_ 11 a0).bind fun u7_ =>
  (fnX13_isWho n S4_ a0 x1).bind fun x10_ =>
  if x10_ = 0 then (
    cX13_who_21 n S4_ a0)
  else (
    (fnX13_isIn n S4_ x2 (0 : Int32) (5 : Int32)).bind fun x14_ =>
    if x14_ = 0 then (
      cX13_who_21 n S4_ a0)
    else (
      (rv_pI S4_ 11 a0 0 (0 : Int32)).bind fun S17_ =>
      if x2 = 0 then (
        (rv_ck S17_ 11 a0).bind fun u44_ =>
        (fnX13_ofWho n S17_ a0 x1 (0 : Int32)).bind fun x47_ =>
        some (x47_, S17_))
      else (
        if x2 = (1 : Int32) then (
          (rv_ck S17_ 11 a0).bind fun u27_ =>
          (fnX13_ofWho n S17_ a0 x1 (1 : Int32)).bind fun x30_ =>
          if x30_ ≤ 0 then (
            some (x1, S17_))
          else (
            (rv_ck S17_ 11 a0).bind fun u33_ =>
            (fnX13_ofWho n S17_ a0 x1 (1 : Int32)).bind fun x36_ =>
            if x1 ≤ (x36_ - (1 : Int32)) then (
              some (x1, S17_))
            else (
              (rv_ck S17_ 11 a0).bind fun u39_ =>
              (fnX13_ofWho n S17_ a0 x1 (1 : Int32)).bind fun x42_ =>
              some (x42_ - (1 : Int32), S17_))))
        else (
          if (4 : Int32) ≤ x2 then (
            cX13_who_98 n n S17_ a0 x1 x2 (0 : Int32) (0 : Int32))
          else (
            (rv_ck S17_ 11 a0).bind fun u22_ =>
            (fnX13_ofWho n S17_ a0 x1 x2).bind fun x25_ =>
            some (x25_, S17_))))))
set_option maxRecDepth 20000 in
set_option maxHeartbeats 4000000 in
theorem eX13_who_in (n : Nat) (S : rvS) (a0 : Nat) (x1 : Int32) (x2 : Int32) (r : Int32) (S' : rvS) (h : fnX13_who n S a0 x1 x2 = some (r, S')) : rv_Ev mX13_who 2 0 [(0, .ref a0), (1, .int x1), (2, .int x2)] [] S (some (.int r)) S' := by
  unfold fnX13_who at h
  refine re_aloadn (pc := 0) 0 (by decide +kernel : decode cX13_who 0 = .ok (.aload_n 0, 1)) rfl ?_
  obtain ⟨u1_, g2_, h⟩ := rv_b_e h
  obtain ⟨S4_, g5_, h⟩ := rv_b_e h
  have m3_ := metX13_lay n S a0 _ g5_
  have z6_ : rv_same S S4_ := m3_.sh rfl
  refine re_cV (pc := 1) [] m3_ (rv_okl.k z6_) (rv_up.sh z6_) (by decide) (rv_ck_e g2_) ⟨by decide, rfl⟩ (Nat.le_of_ble_eq_true rfl) lVX13_187 rfl (by decide +kernel : decode cX13_who 1 = .ok (.invokevirtual 187, 3)) ?_
  refine re_aloadn (pc := 4) 0 (by decide +kernel : decode cX13_who 4 = .ok (.aload_n 0, 1)) rfl ?_
  refine re_iloadn (pc := 5) 1 (by decide +kernel : decode cX13_who 5 = .ok (.iload_n 1, 1)) rfl ?_
  obtain ⟨u7_, g8_, h⟩ := rv_b_e h
  obtain ⟨x10_, g11_, h⟩ := rv_b_e h
  have m9_ := metX13_isWho n S4_ a0 x1 _ g11_
  refine re_cV (pc := 6) [.int x1] m9_ (rv_okl.k ⟨rfl, rfl⟩) (rv_up.rf _ _) (by decide) (rv_ck_e g8_) ⟨by decide, rfl⟩ (Nat.le_of_ble_eq_true rfl) lVX13_265 rfl (by decide +kernel : decode cX13_who 6 = .ok (.invokevirtual 265, 3)) ?_
  rcases rv_if_e h with ⟨g12_, h⟩ | ⟨g12_, h⟩
  · refine re_if_eq_t (pc := 9) 21 (by decide +kernel : decode cX13_who 9 = .ok (.ifCond .eq 12, 3)) (by decide) g12_ ?_
    refine re_sub [0] (lv1 := [(0, .ref a0)]) rfl ?_
    exact eX13_who_21 n S4_ a0 _ _ h
  · refine re_if_eq_f (pc := 9) 21 (by decide +kernel : decode cX13_who 9 = .ok (.ifCond .eq 12, 3)) (by decide) g12_ ?_
    refine re_iloadn (pc := 12) 2 (by decide +kernel : decode cX13_who 12 = .ok (.iload_n 2, 1)) rfl ?_
    refine re_iconst (pc := 13) (0 : Int32) (by decide +kernel : decode cX13_who 13 = .ok (.iconst 0, 1)) (by decide) ?_
    refine re_iconst (pc := 14) (5 : Int32) (by decide +kernel : decode cX13_who 14 = .ok (.iconst 5, 1)) (by decide) ?_
    obtain ⟨x14_, g15_, h⟩ := rv_b_e h
    have m13_ := metX13_isIn n S4_ x2 (0 : Int32) (5 : Int32) _ g15_
    refine re_cS (pc := 15) [.int x2, .int (0 : Int32), .int (5 : Int32)] m13_ (rv_okl.k ⟨rfl, rfl⟩) (rv_up.rf _ _) (by decide) (Nat.le_of_ble_eq_true rfl) lSX13_170 rfl (by decide +kernel : decode cX13_who 15 = .ok (.invokestatic 170, 3)) ?_
    rcases rv_if_e h with ⟨g16_, h⟩ | ⟨g16_, h⟩
    · refine re_if_ne_f (pc := 18) 26 (by decide +kernel : decode cX13_who 18 = .ok (.ifCond .ne 8, 3)) (by decide) g16_ ?_
      refine re_sub [0] (lv1 := [(0, .ref a0)]) rfl ?_
      exact eX13_who_21 n S4_ a0 _ _ h
    · refine re_if_ne_t (pc := 18) 26 (by decide +kernel : decode cX13_who 18 = .ok (.ifCond .ne 8, 3)) (by decide) g16_ ?_
      refine re_aloadn (pc := 26) 0 (by decide +kernel : decode cX13_who 26 = .ok (.aload_n 0, 1)) rfl ?_
      refine re_iconst (pc := 27) (0 : Int32) (by decide +kernel : decode cX13_who 27 = .ok (.iconst 0, 1)) (by decide) ?_
      obtain ⟨S17_, g18_, h⟩ := rv_b_e h
      refine re_pI (pc := 28) g18_ lfX13_99 rfl rfl rfl rfl (by decide +kernel : decode cX13_who 28 = .ok (.putfield 99, 3)) ?_
      refine re_iloadn (pc := 31) 2 (by decide +kernel : decode cX13_who 31 = .ok (.iload_n 2, 1)) rfl ?_
      rcases rv_if_e h with ⟨g19_, h⟩ | ⟨g19_, h⟩
      · refine re_if_ne_f (pc := 32) 42 (by decide +kernel : decode cX13_who 32 = .ok (.ifCond .ne 10, 3)) (by decide) g19_ ?_
        refine re_aloadn (pc := 35) 0 (by decide +kernel : decode cX13_who 35 = .ok (.aload_n 0, 1)) rfl ?_
        refine re_iloadn (pc := 36) 1 (by decide +kernel : decode cX13_who 36 = .ok (.iload_n 1, 1)) rfl ?_
        refine re_iconst (pc := 37) (0 : Int32) (by decide +kernel : decode cX13_who 37 = .ok (.iconst 0, 1)) (by decide) ?_
        obtain ⟨u44_, g45_, h⟩ := rv_b_e h
        obtain ⟨x47_, g48_, h⟩ := rv_b_e h
        have m46_ := metX13_ofWho n S17_ a0 x1 (0 : Int32) _ g48_
        refine re_cV (pc := 38) [.int x1, .int (0 : Int32)] m46_ (rv_okl.k ⟨rfl, rfl⟩) (rv_up.rf _ _) (by decide) (rv_ck_e g45_) ⟨by decide, rfl⟩ (Nat.le_of_ble_eq_true rfl) lVX13_261 rfl (by decide +kernel : decode cX13_who 38 = .ok (.invokevirtual 261, 3)) ?_
        cases h
        exact re_iret (fun ty hty => by cases hty; rfl) (by decide +kernel : decode cX13_who 41 = .ok (.ireturn, 1))
      · refine re_if_ne_t (pc := 32) 42 (by decide +kernel : decode cX13_who 32 = .ok (.ifCond .ne 10, 3)) (by decide) g19_ ?_
        refine re_iloadn (pc := 42) 2 (by decide +kernel : decode cX13_who 42 = .ok (.iload_n 2, 1)) rfl ?_
        refine re_iconst (pc := 43) (1 : Int32) (by decide +kernel : decode cX13_who 43 = .ok (.iconst 1, 1)) (by decide) ?_
        rcases rv_if_e h with ⟨g20_, h⟩ | ⟨g20_, h⟩
        · refine re_icmp_ne_f (pc := 44) 81 (by decide +kernel : decode cX13_who 44 = .ok (.if_icmp .ne 37, 3)) (by decide) g20_ ?_
          refine re_aloadn (pc := 47) 0 (by decide +kernel : decode cX13_who 47 = .ok (.aload_n 0, 1)) rfl ?_
          refine re_iloadn (pc := 48) 1 (by decide +kernel : decode cX13_who 48 = .ok (.iload_n 1, 1)) rfl ?_
          refine re_iconst (pc := 49) (1 : Int32) (by decide +kernel : decode cX13_who 49 = .ok (.iconst 1, 1)) (by decide) ?_
          obtain ⟨u27_, g28_, h⟩ := rv_b_e h
          obtain ⟨x30_, g31_, h⟩ := rv_b_e h
          have m29_ := metX13_ofWho n S17_ a0 x1 (1 : Int32) _ g31_
          refine re_cV (pc := 50) [.int x1, .int (1 : Int32)] m29_ (rv_okl.k ⟨rfl, rfl⟩) (rv_up.rf _ _) (by decide) (rv_ck_e g28_) ⟨by decide, rfl⟩ (Nat.le_of_ble_eq_true rfl) lVX13_261 rfl (by decide +kernel : decode cX13_who 50 = .ok (.invokevirtual 261, 3)) ?_
          rcases rv_if_e h with ⟨g32_, h⟩ | ⟨g32_, h⟩
          · refine re_if_le_t (pc := 53) 79 (by decide +kernel : decode cX13_who 53 = .ok (.ifCond .le 26, 3)) (by decide) g32_ ?_
            refine re_iloadn (pc := 79) 1 (by decide +kernel : decode cX13_who 79 = .ok (.iload_n 1, 1)) rfl ?_
            cases h
            exact re_iret (fun ty hty => by cases hty; rfl) (by decide +kernel : decode cX13_who 80 = .ok (.ireturn, 1))
          · refine re_if_le_f (pc := 53) 79 (by decide +kernel : decode cX13_who 53 = .ok (.ifCond .le 26, 3)) (by decide) g32_ ?_
            refine re_aloadn (pc := 56) 0 (by decide +kernel : decode cX13_who 56 = .ok (.aload_n 0, 1)) rfl ?_
            refine re_iloadn (pc := 57) 1 (by decide +kernel : decode cX13_who 57 = .ok (.iload_n 1, 1)) rfl ?_
            refine re_iconst (pc := 58) (1 : Int32) (by decide +kernel : decode cX13_who 58 = .ok (.iconst 1, 1)) (by decide) ?_
            obtain ⟨u33_, g34_, h⟩ := rv_b_e h
            obtain ⟨x36_, g37_, h⟩ := rv_b_e h
            have m35_ := metX13_ofWho n S17_ a0 x1 (1 : Int32) _ g37_
            refine re_cV (pc := 59) [.int x1, .int (1 : Int32)] m35_ (rv_okl.k ⟨rfl, rfl⟩) (rv_up.rf _ _) (by decide) (rv_ck_e g34_) ⟨by decide, rfl⟩ (Nat.le_of_ble_eq_true rfl) lVX13_261 rfl (by decide +kernel : decode cX13_who 59 = .ok (.invokevirtual 261, 3)) ?_
            refine re_iconst (pc := 62) (1 : Int32) (by decide +kernel : decode cX13_who 62 = .ok (.iconst 1, 1)) (by decide) ?_
            refine re_isub (pc := 63) (by decide +kernel : decode cX13_who 63 = .ok (.isub, 1)) ?_
            refine re_iloadn (pc := 64) 1 (by decide +kernel : decode cX13_who 64 = .ok (.iload_n 1, 1)) rfl ?_
            rcases rv_if_e h with ⟨g38_, h⟩ | ⟨g38_, h⟩
            · refine re_icmp_ge_t (pc := 65) 79 (by decide +kernel : decode cX13_who 65 = .ok (.if_icmp .ge 14, 3)) (by decide) g38_ ?_
              refine re_iloadn (pc := 79) 1 (by decide +kernel : decode cX13_who 79 = .ok (.iload_n 1, 1)) rfl ?_
              cases h
              exact re_iret (fun ty hty => by cases hty; rfl) (by decide +kernel : decode cX13_who 80 = .ok (.ireturn, 1))
            · refine re_icmp_ge_f (pc := 65) 79 (by decide +kernel : decode cX13_who 65 = .ok (.if_icmp .ge 14, 3)) (by decide) g38_ ?_
              refine re_aloadn (pc := 68) 0 (by decide +kernel : decode cX13_who 68 = .ok (.aload_n 0, 1)) rfl ?_
              refine re_iloadn (pc := 69) 1 (by decide +kernel : decode cX13_who 69 = .ok (.iload_n 1, 1)) rfl ?_
              refine re_iconst (pc := 70) (1 : Int32) (by decide +kernel : decode cX13_who 70 = .ok (.iconst 1, 1)) (by decide) ?_
              obtain ⟨u39_, g40_, h⟩ := rv_b_e h
              obtain ⟨x42_, g43_, h⟩ := rv_b_e h
              have m41_ := metX13_ofWho n S17_ a0 x1 (1 : Int32) _ g43_
              refine re_cV (pc := 71) [.int x1, .int (1 : Int32)] m41_ (rv_okl.k ⟨rfl, rfl⟩) (rv_up.rf _ _) (by decide) (rv_ck_e g40_) ⟨by decide, rfl⟩ (Nat.le_of_ble_eq_true rfl) lVX13_261 rfl (by decide +kernel : decode cX13_who 71 = .ok (.invokevirtual 261, 3)) ?_
              refine re_iconst (pc := 74) (1 : Int32) (by decide +kernel : decode cX13_who 74 = .ok (.iconst 1, 1)) (by decide) ?_
              refine re_isub (pc := 75) (by decide +kernel : decode cX13_who 75 = .ok (.isub, 1)) ?_
              refine re_goto (pc := 76) 80 (by decide +kernel : decode cX13_who 76 = .ok (.goto 4, 3)) (by decide) ?_
              cases h
              exact re_iret (fun ty hty => by cases hty; rfl) (by decide +kernel : decode cX13_who 80 = .ok (.ireturn, 1))
        · refine re_icmp_ne_t (pc := 44) 81 (by decide +kernel : decode cX13_who 44 = .ok (.if_icmp .ne 37, 3)) (by decide) g20_ ?_
          refine re_iloadn (pc := 81) 2 (by decide +kernel : decode cX13_who 81 = .ok (.iload_n 2, 1)) rfl ?_
          refine re_iconst (pc := 82) (4 : Int32) (by decide +kernel : decode cX13_who 82 = .ok (.iconst 4, 1)) (by decide) ?_
          rcases rv_if_e h with ⟨g21_, h⟩ | ⟨g21_, h⟩
          · refine re_icmp_ge_t (pc := 83) 93 (by decide +kernel : decode cX13_who 83 = .ok (.if_icmp .ge 10, 3)) (by decide) g21_ ?_
            refine re_iconst (pc := 93) (0 : Int32) (by decide +kernel : decode cX13_who 93 = .ok (.iconst 0, 1)) (by decide) ?_
            refine re_istoren (pc := 94) (lv1 := [(3, .int (0 : Int32)), (0, .ref a0), (1, .int x1), (2, .int x2)]) (by decide +kernel : decode cX13_who 94 = .ok (.istore_n 3, 1)) rfl (by decide) rfl ?_
            refine re_iconst (pc := 95) (0 : Int32) (by decide +kernel : decode cX13_who 95 = .ok (.iconst 0, 1)) (by decide) ?_
            refine re_istore (pc := 96) (lv1 := [(4, .int (0 : Int32)), (3, .int (0 : Int32)), (0, .ref a0), (1, .int x1), (2, .int x2)]) (by decide +kernel : decode cX13_who 96 = .ok (.istore 4, 2)) (by decide) rfl ?_
            refine re_sub [2, 3, 4, 1, 0] (lv1 := [(0, .ref a0), (1, .int x1), (2, .int x2), (3, .int (0 : Int32)), (4, .int (0 : Int32))]) rfl ?_
            exact eX13_who_98 n n S17_ a0 x1 x2 (0 : Int32) (0 : Int32) _ _ h
          · refine re_icmp_ge_f (pc := 83) 93 (by decide +kernel : decode cX13_who 83 = .ok (.if_icmp .ge 10, 3)) (by decide) g21_ ?_
            refine re_aloadn (pc := 86) 0 (by decide +kernel : decode cX13_who 86 = .ok (.aload_n 0, 1)) rfl ?_
            refine re_iloadn (pc := 87) 1 (by decide +kernel : decode cX13_who 87 = .ok (.iload_n 1, 1)) rfl ?_
            refine re_iloadn (pc := 88) 2 (by decide +kernel : decode cX13_who 88 = .ok (.iload_n 2, 1)) rfl ?_
            obtain ⟨u22_, g23_, h⟩ := rv_b_e h
            obtain ⟨x25_, g26_, h⟩ := rv_b_e h
            have m24_ := metX13_ofWho n S17_ a0 x1 x2 _ g26_
            refine re_cV (pc := 89) [.int x1, .int x2] m24_ (rv_okl.k ⟨rfl, rfl⟩) (rv_up.rf _ _) (by decide) (rv_ck_e g23_) ⟨by decide, rfl⟩ (Nat.le_of_ble_eq_true rfl) lVX13_261 rfl (by decide +kernel : decode cX13_who 89 = .ok (.invokevirtual 261, 3)) ?_
            cases h
            exact re_iret (fun ty hty => by cases hty; rfl) (by decide +kernel : decode cX13_who 92 = .ok (.ireturn, 1))
theorem metX13_who (n : Nat) (S : rvS) (a0 : Nat) (x1 : Int32) (x2 : Int32) (r : Int32) (S' : rvS) (h : fnX13_who n S a0 x1 x2 = some (r, S')) : rv_Met yX13_who mX13_who 2 [.ref a0, .int x1, .int x2] S (some (.int r)) S' := rv_Met.of ⟨by decide +kernel, rfl, (fun z => by first | rfl | cases z), rfl⟩ (Nat.le_of_ble_eq_true rfl) rfl (eX13_who_in n S a0 x1 x2 r S' h)
noncomputable def cX13_forgedOf_103 (n : Nat) (K12 : Nat → Int32 → Int32 → Int32 → Int32 → Option Int32) (S : rvS) (a0 : Nat) (x1 : Int32) (x2 : Int32) (x3 : Int32) (x4 : Int32) (x5 : Int32) (t0 : Int32) : Option Int32 :=
  (rv_ck S 11 a0).bind fun u1_ =>
  (fnX13_ofWho n S a0 t0 (0 : Int32)).bind fun x4_ =>
  (rv_ck S 11 a0).bind fun u6_ =>
  (fnX13_ofWho n S a0 x5 (0 : Int32)).bind fun x9_ =>
  (rv_ck S 11 a0).bind fun u11_ =>
  (fnX13_areNear n S a0 x4_ x9_).bind fun x14_ =>
  if x14_ = 0 then (
    rv_lt (x2 ||| (4 : Int32)) fun x19_ =>
    rv_lt (x4 + (1)) fun x21_ =>
    K12 a0 x1 x19_ x3 x21_)
  else (
    rv_lt (x4 + (1)) fun x17_ =>
    K12 a0 x1 x2 x3 x17_)
set_option maxRecDepth 20000 in
set_option maxHeartbeats 4000000 in
theorem eX13_forgedOf_103 (n : Nat) (S : rvS) (K12 : Nat → Int32 → Int32 → Int32 → Int32 → Option Int32) (hK12 : ∀ (a0 : Nat) (x1 : Int32) (x2 : Int32) (x3 : Int32) (x4 : Int32) (r : Int32), K12 a0 x1 x2 x3 x4 = some r → rv_Ev mX13_forgedOf 2 12 [(0, .ref a0), (1, .int x1), (2, .int x2), (3, .int x3), (4, .int x4)] [] S (some (.int r)) S) (a0 : Nat) (x1 : Int32) (x2 : Int32) (x3 : Int32) (x4 : Int32) (x5 : Int32) (t0 : Int32) (r : Int32) (h : cX13_forgedOf_103 n K12 S a0 x1 x2 x3 x4 x5 t0 = some r) : rv_Ev mX13_forgedOf 2 103 [(0, .ref a0), (1, .int x1), (2, .int x2), (3, .int x3), (4, .int x4), (5, .int x5)] [.int t0] S (some (.int r)) S := by
  unfold cX13_forgedOf_103 at h
  refine re_istore (pc := 103) (lv1 := [(6, .int t0), (0, .ref a0), (1, .int x1), (2, .int x2), (3, .int x3), (4, .int x4), (5, .int x5)]) (by decide +kernel : decode cX13_forgedOf 103 = .ok (.istore 6, 2)) (by decide) rfl ?_
  refine re_aloadn (pc := 105) 1 (by decide +kernel : decode cX13_forgedOf 105 = .ok (.aload_n 0, 1)) rfl ?_
  refine re_aloadn (pc := 106) 1 (by decide +kernel : decode cX13_forgedOf 106 = .ok (.aload_n 0, 1)) rfl ?_
  refine re_iload (pc := 107) 0 (by decide +kernel : decode cX13_forgedOf 107 = .ok (.iload 6, 2)) rfl ?_
  refine re_iconst (pc := 109) (0 : Int32) (by decide +kernel : decode cX13_forgedOf 109 = .ok (.iconst 0, 1)) (by decide) ?_
  obtain ⟨u1_, g2_, h⟩ := rv_b_e h
  obtain ⟨x4_, g5_, h⟩ := rv_b_e h
  have m3_ := metX13_ofWho n S a0 t0 (0 : Int32) _ g5_
  refine re_cV (pc := 110) [.int t0, .int (0 : Int32)] m3_ (rv_okl.k ⟨rfl, rfl⟩) (rv_up.rf _ _) (by decide) (rv_ck_e g2_) ⟨by decide, rfl⟩ (Nat.le_of_ble_eq_true rfl) lVX13_261 rfl (by decide +kernel : decode cX13_forgedOf 110 = .ok (.invokevirtual 261, 3)) ?_
  refine re_aloadn (pc := 113) 1 (by decide +kernel : decode cX13_forgedOf 113 = .ok (.aload_n 0, 1)) rfl ?_
  refine re_iload (pc := 114) 6 (by decide +kernel : decode cX13_forgedOf 114 = .ok (.iload 5, 2)) rfl ?_
  refine re_iconst (pc := 116) (0 : Int32) (by decide +kernel : decode cX13_forgedOf 116 = .ok (.iconst 0, 1)) (by decide) ?_
  obtain ⟨u6_, g7_, h⟩ := rv_b_e h
  obtain ⟨x9_, g10_, h⟩ := rv_b_e h
  have m8_ := metX13_ofWho n S a0 x5 (0 : Int32) _ g10_
  refine re_cV (pc := 117) [.int x5, .int (0 : Int32)] m8_ (rv_okl.k ⟨rfl, rfl⟩) (rv_up.rf _ _) (by decide) (rv_ck_e g7_) ⟨by decide, rfl⟩ (Nat.le_of_ble_eq_true rfl) lVX13_261 rfl (by decide +kernel : decode cX13_forgedOf 117 = .ok (.invokevirtual 261, 3)) ?_
  obtain ⟨u11_, g12_, h⟩ := rv_b_e h
  obtain ⟨x14_, g15_, h⟩ := rv_b_e h
  have m13_ := metX13_areNear n S a0 x4_ x9_ _ g15_
  refine re_cV (pc := 120) [.int x4_, .int x9_] m13_ (rv_okl.k ⟨rfl, rfl⟩) (rv_up.rf _ _) (by decide) (rv_ck_e g12_) ⟨by decide, rfl⟩ (Nat.le_of_ble_eq_true rfl) lVX13_274 rfl (by decide +kernel : decode cX13_forgedOf 120 = .ok (.invokevirtual 274, 3)) ?_
  rcases rv_if_e h with ⟨g16_, h⟩ | ⟨g16_, h⟩
  · refine re_if_ne_f (pc := 123) 130 (by decide +kernel : decode cX13_forgedOf 123 = .ok (.ifCond .ne 7, 3)) (by decide) g16_ ?_
    refine re_iloadn (pc := 126) 3 (by decide +kernel : decode cX13_forgedOf 126 = .ok (.iload_n 2, 1)) rfl ?_
    refine re_iconst (pc := 127) (4 : Int32) (by decide +kernel : decode cX13_forgedOf 127 = .ok (.iconst 4, 1)) (by decide) ?_
    refine re_ior (pc := 128) (by decide +kernel : decode cX13_forgedOf 128 = .ok (.ior, 1)) ?_
    obtain ⟨x19_, g20_, h⟩ := rv_lt_e h
    refine re_nI (pc := 129) g20_ ?_
    refine re_istoren (pc := 129) (lv1 := [(2, .int x19_), (6, .int t0), (0, .ref a0), (1, .int x1), (3, .int x3), (4, .int x4), (5, .int x5)]) (by decide +kernel : decode cX13_forgedOf 129 = .ok (.istore_n 2, 1)) rfl (by decide) rfl ?_
    obtain ⟨x21_, g22_, h⟩ := rv_lt_e h
    refine re_iinc (pc := 130) 5 x21_ (lv1 := [(4, .int x21_), (2, .int x19_), (6, .int t0), (0, .ref a0), (1, .int x1), (3, .int x3), (5, .int x5)]) (by decide +kernel : decode cX13_forgedOf 130 = .ok (.iinc 4 1, 3)) rfl g22_ (by decide) rfl ?_
    refine re_goto (pc := 133) 12 (by decide +kernel : decode cX13_forgedOf 133 = .ok (.goto (-121), 3)) (by decide) ?_
    refine re_sub [3, 4, 1, 5, 0] (lv1 := [(0, .ref a0), (1, .int x1), (2, .int x19_), (3, .int x3), (4, .int x21_)]) rfl ?_
    exact hK12 a0 x1 x19_ x3 x21_ _ h
  · refine re_if_ne_t (pc := 123) 130 (by decide +kernel : decode cX13_forgedOf 123 = .ok (.ifCond .ne 7, 3)) (by decide) g16_ ?_
    obtain ⟨x17_, g18_, h⟩ := rv_lt_e h
    refine re_iinc (pc := 130) 5 x17_ (lv1 := [(4, .int x17_), (6, .int t0), (0, .ref a0), (1, .int x1), (2, .int x2), (3, .int x3), (5, .int x5)]) (by decide +kernel : decode cX13_forgedOf 130 = .ok (.iinc 4 1, 3)) rfl g18_ (by decide) rfl ?_
    refine re_goto (pc := 133) 12 (by decide +kernel : decode cX13_forgedOf 133 = .ok (.goto (-121), 3)) (by decide) ?_
    refine re_sub [2, 3, 4, 5, 0] (lv1 := [(0, .ref a0), (1, .int x1), (2, .int x2), (3, .int x3), (4, .int x17_)]) rfl ?_
    exact hK12 a0 x1 x2 x3 x17_ _ h
noncomputable def cX13_forgedOf_78 (n : Nat) (K12 : Nat → Int32 → Int32 → Int32 → Int32 → Option Int32) (S : rvS) (a0 : Nat) (x1 : Int32) (x2 : Int32) (x3 : Int32) (x4 : Int32) (x5 : Int32) : Option Int32 :=
  if x4 = 0 then (
    (rv_ck S 11 a0).bind fun u7_ =>
    (fnX13_ofCoin n S a0 x1 (1 : Int32)).bind fun x10_ =>
    cX13_forgedOf_103 n K12 S a0 x1 x2 x3 x4 x5 x10_)
  else (
    (rv_ck S 11 a0).bind fun u2_ =>
    (fnX13_ofCoin n S a0 x1 (((3 : Int32) + x4) - (1 : Int32))).bind fun x5_ =>
    cX13_forgedOf_103 n K12 S a0 x1 x2 x3 x4 x5 x5_)
set_option maxRecDepth 20000 in
set_option maxHeartbeats 4000000 in
theorem eX13_forgedOf_78 (n : Nat) (S : rvS) (K12 : Nat → Int32 → Int32 → Int32 → Int32 → Option Int32) (hK12 : ∀ (a0 : Nat) (x1 : Int32) (x2 : Int32) (x3 : Int32) (x4 : Int32) (r : Int32), K12 a0 x1 x2 x3 x4 = some r → rv_Ev mX13_forgedOf 2 12 [(0, .ref a0), (1, .int x1), (2, .int x2), (3, .int x3), (4, .int x4)] [] S (some (.int r)) S) (a0 : Nat) (x1 : Int32) (x2 : Int32) (x3 : Int32) (x4 : Int32) (x5 : Int32) (r : Int32) (h : cX13_forgedOf_78 n K12 S a0 x1 x2 x3 x4 x5 = some r) : rv_Ev mX13_forgedOf 2 78 [(0, .ref a0), (1, .int x1), (2, .int x2), (3, .int x3), (4, .int x4), (5, .int x5)] [] S (some (.int r)) S := by
  unfold cX13_forgedOf_78 at h
  refine re_iload (pc := 78) 4 (by decide +kernel : decode cX13_forgedOf 78 = .ok (.iload 4, 2)) rfl ?_
  rcases rv_if_e h with ⟨g1_, h⟩ | ⟨g1_, h⟩
  · refine re_if_ne_f (pc := 80) 92 (by decide +kernel : decode cX13_forgedOf 80 = .ok (.ifCond .ne 12, 3)) (by decide) g1_ ?_
    refine re_aloadn (pc := 83) 0 (by decide +kernel : decode cX13_forgedOf 83 = .ok (.aload_n 0, 1)) rfl ?_
    refine re_iloadn (pc := 84) 1 (by decide +kernel : decode cX13_forgedOf 84 = .ok (.iload_n 1, 1)) rfl ?_
    refine re_iconst (pc := 85) (1 : Int32) (by decide +kernel : decode cX13_forgedOf 85 = .ok (.iconst 1, 1)) (by decide) ?_
    obtain ⟨u7_, g8_, h⟩ := rv_b_e h
    obtain ⟨x10_, g11_, h⟩ := rv_b_e h
    have m9_ := metX13_ofCoin n S a0 x1 (1 : Int32) _ g11_
    refine re_cV (pc := 86) [.int x1, .int (1 : Int32)] m9_ (rv_okl.k ⟨rfl, rfl⟩) (rv_up.rf _ _) (by decide) (rv_ck_e g8_) ⟨by decide, rfl⟩ (Nat.le_of_ble_eq_true rfl) lVX13_271 rfl (by decide +kernel : decode cX13_forgedOf 86 = .ok (.invokevirtual 271, 3)) ?_
    refine re_goto (pc := 89) 103 (by decide +kernel : decode cX13_forgedOf 89 = .ok (.goto 14, 3)) (by decide) ?_
    exact eX13_forgedOf_103 n S K12 hK12 a0 x1 x2 x3 x4 x5 x10_ _ h
  · refine re_if_ne_t (pc := 80) 92 (by decide +kernel : decode cX13_forgedOf 80 = .ok (.ifCond .ne 12, 3)) (by decide) g1_ ?_
    refine re_aloadn (pc := 92) 0 (by decide +kernel : decode cX13_forgedOf 92 = .ok (.aload_n 0, 1)) rfl ?_
    refine re_iloadn (pc := 93) 1 (by decide +kernel : decode cX13_forgedOf 93 = .ok (.iload_n 1, 1)) rfl ?_
    refine re_iconst (pc := 94) (3 : Int32) (by decide +kernel : decode cX13_forgedOf 94 = .ok (.iconst 3, 1)) (by decide) ?_
    refine re_iload (pc := 95) 4 (by decide +kernel : decode cX13_forgedOf 95 = .ok (.iload 4, 2)) rfl ?_
    refine re_iadd (pc := 97) (by decide +kernel : decode cX13_forgedOf 97 = .ok (.iadd, 1)) ?_
    refine re_iconst (pc := 98) (1 : Int32) (by decide +kernel : decode cX13_forgedOf 98 = .ok (.iconst 1, 1)) (by decide) ?_
    refine re_isub (pc := 99) (by decide +kernel : decode cX13_forgedOf 99 = .ok (.isub, 1)) ?_
    obtain ⟨u2_, g3_, h⟩ := rv_b_e h
    obtain ⟨x5_, g6_, h⟩ := rv_b_e h
    have m4_ := metX13_ofCoin n S a0 x1 (((3 : Int32) + x4) - (1 : Int32)) _ g6_
    refine re_cV (pc := 100) [.int x1, .int (((3 : Int32) + x4) - (1 : Int32))] m4_ (rv_okl.k ⟨rfl, rfl⟩) (rv_up.rf _ _) (by decide) (rv_ck_e g3_) ⟨by decide, rfl⟩ (Nat.le_of_ble_eq_true rfl) lVX13_271 rfl (by decide +kernel : decode cX13_forgedOf 100 = .ok (.invokevirtual 271, 3)) ?_
    exact eX13_forgedOf_103 n S K12 hK12 a0 x1 x2 x3 x4 x5 x5_ _ h
noncomputable def cX13_forgedOf_47 (n : Nat) (K12 : Nat → Int32 → Int32 → Int32 → Int32 → Option Int32) (S : rvS) : Nat → Nat → Int32 → Int32 → Int32 → Int32 → Int32 → Int32 → Option Int32
  | 0, _, _, _, _, _, _, _ => none
  | k + 1, a0, x1, x2, x3, x4, x5, x6 =>
    if x4 ≤ x6 then (
      cX13_forgedOf_78 n K12 S a0 x1 x2 x3 x4 x5)
    else (
      (rv_ck S 11 a0).bind fun u2_ =>
      (fnX13_ofCoin n S a0 x1 ((3 : Int32) + x6)).bind fun x5_ =>
      if x5_ = x5 then (
        rv_lt (x2 ||| (1 : Int32)) fun x10_ =>
        rv_lt (x6 + (1)) fun x12_ =>
        cX13_forgedOf_47 n K12 S k a0 x1 x10_ x3 x4 x5 x12_)
      else (
        rv_lt (x6 + (1)) fun x8_ =>
        cX13_forgedOf_47 n K12 S k a0 x1 x2 x3 x4 x5 x8_))
set_option maxRecDepth 20000 in
set_option maxHeartbeats 4000000 in
theorem eX13_forgedOf_47 (n : Nat) (S : rvS) (K12 : Nat → Int32 → Int32 → Int32 → Int32 → Option Int32) (hK12 : ∀ (a0 : Nat) (x1 : Int32) (x2 : Int32) (x3 : Int32) (x4 : Int32) (r : Int32), K12 a0 x1 x2 x3 x4 = some r → rv_Ev mX13_forgedOf 2 12 [(0, .ref a0), (1, .int x1), (2, .int x2), (3, .int x3), (4, .int x4)] [] S (some (.int r)) S) : ∀ (k : Nat) (a0 : Nat) (x1 : Int32) (x2 : Int32) (x3 : Int32) (x4 : Int32) (x5 : Int32) (x6 : Int32) (r : Int32), cX13_forgedOf_47 n K12 S k a0 x1 x2 x3 x4 x5 x6 = some r → rv_Ev mX13_forgedOf 2 47 [(0, .ref a0), (1, .int x1), (2, .int x2), (3, .int x3), (4, .int x4), (5, .int x5), (6, .int x6)] [] S (some (.int r)) S := by
  intro k
  induction k with
  | zero => intro a0 x1 x2 x3 x4 x5 x6 r h; exact absurd h (by simp [cX13_forgedOf_47])
  | succ k ih =>
    intro a0 x1 x2 x3 x4 x5 x6 r h
    unfold cX13_forgedOf_47 at h
    refine re_iload (pc := 47) 6 (by decide +kernel : decode cX13_forgedOf 47 = .ok (.iload 6, 2)) rfl ?_
    refine re_iload (pc := 49) 4 (by decide +kernel : decode cX13_forgedOf 49 = .ok (.iload 4, 2)) rfl ?_
    rcases rv_if_e h with ⟨g1_, h⟩ | ⟨g1_, h⟩
    · refine re_icmp_ge_t (pc := 51) 78 (by decide +kernel : decode cX13_forgedOf 51 = .ok (.if_icmp .ge 27, 3)) (by decide) g1_ ?_
      refine re_sub [0, 1, 2, 3, 4, 5] (lv1 := [(0, .ref a0), (1, .int x1), (2, .int x2), (3, .int x3), (4, .int x4), (5, .int x5)]) rfl ?_
      exact eX13_forgedOf_78 n S K12 hK12 a0 x1 x2 x3 x4 x5 _ h
    · refine re_icmp_ge_f (pc := 51) 78 (by decide +kernel : decode cX13_forgedOf 51 = .ok (.if_icmp .ge 27, 3)) (by decide) g1_ ?_
      refine re_aloadn (pc := 54) 0 (by decide +kernel : decode cX13_forgedOf 54 = .ok (.aload_n 0, 1)) rfl ?_
      refine re_iloadn (pc := 55) 1 (by decide +kernel : decode cX13_forgedOf 55 = .ok (.iload_n 1, 1)) rfl ?_
      refine re_iconst (pc := 56) (3 : Int32) (by decide +kernel : decode cX13_forgedOf 56 = .ok (.iconst 3, 1)) (by decide) ?_
      refine re_iload (pc := 57) 6 (by decide +kernel : decode cX13_forgedOf 57 = .ok (.iload 6, 2)) rfl ?_
      refine re_iadd (pc := 59) (by decide +kernel : decode cX13_forgedOf 59 = .ok (.iadd, 1)) ?_
      obtain ⟨u2_, g3_, h⟩ := rv_b_e h
      obtain ⟨x5_, g6_, h⟩ := rv_b_e h
      have m4_ := metX13_ofCoin n S a0 x1 ((3 : Int32) + x6) _ g6_
      refine re_cV (pc := 60) [.int x1, .int ((3 : Int32) + x6)] m4_ (rv_okl.k ⟨rfl, rfl⟩) (rv_up.rf _ _) (by decide) (rv_ck_e g3_) ⟨by decide, rfl⟩ (Nat.le_of_ble_eq_true rfl) lVX13_271 rfl (by decide +kernel : decode cX13_forgedOf 60 = .ok (.invokevirtual 271, 3)) ?_
      refine re_iload (pc := 63) 5 (by decide +kernel : decode cX13_forgedOf 63 = .ok (.iload 5, 2)) rfl ?_
      rcases rv_if_e h with ⟨g7_, h⟩ | ⟨g7_, h⟩
      · refine re_icmp_ne_f (pc := 65) 72 (by decide +kernel : decode cX13_forgedOf 65 = .ok (.if_icmp .ne 7, 3)) (by decide) g7_ ?_
        refine re_iloadn (pc := 68) 2 (by decide +kernel : decode cX13_forgedOf 68 = .ok (.iload_n 2, 1)) rfl ?_
        refine re_iconst (pc := 69) (1 : Int32) (by decide +kernel : decode cX13_forgedOf 69 = .ok (.iconst 1, 1)) (by decide) ?_
        refine re_ior (pc := 70) (by decide +kernel : decode cX13_forgedOf 70 = .ok (.ior, 1)) ?_
        obtain ⟨x10_, g11_, h⟩ := rv_lt_e h
        refine re_nI (pc := 71) g11_ ?_
        refine re_istoren (pc := 71) (lv1 := [(2, .int x10_), (0, .ref a0), (1, .int x1), (3, .int x3), (4, .int x4), (5, .int x5), (6, .int x6)]) (by decide +kernel : decode cX13_forgedOf 71 = .ok (.istore_n 2, 1)) rfl (by decide) rfl ?_
        obtain ⟨x12_, g13_, h⟩ := rv_lt_e h
        refine re_iinc (pc := 72) 6 x12_ (lv1 := [(6, .int x12_), (2, .int x10_), (0, .ref a0), (1, .int x1), (3, .int x3), (4, .int x4), (5, .int x5)]) (by decide +kernel : decode cX13_forgedOf 72 = .ok (.iinc 6 1, 3)) rfl g13_ (by decide) rfl ?_
        refine re_goto (pc := 75) 47 (by decide +kernel : decode cX13_forgedOf 75 = .ok (.goto (-28), 3)) (by decide) ?_
        refine re_sub [2, 3, 1, 4, 5, 6, 0] (lv1 := [(0, .ref a0), (1, .int x1), (2, .int x10_), (3, .int x3), (4, .int x4), (5, .int x5), (6, .int x12_)]) rfl ?_
        exact ih a0 x1 x10_ x3 x4 x5 x12_ _ h
      · refine re_icmp_ne_t (pc := 65) 72 (by decide +kernel : decode cX13_forgedOf 65 = .ok (.if_icmp .ne 7, 3)) (by decide) g7_ ?_
        obtain ⟨x8_, g9_, h⟩ := rv_lt_e h
        refine re_iinc (pc := 72) 6 x8_ (lv1 := [(6, .int x8_), (0, .ref a0), (1, .int x1), (2, .int x2), (3, .int x3), (4, .int x4), (5, .int x5)]) (by decide +kernel : decode cX13_forgedOf 72 = .ok (.iinc 6 1, 3)) rfl g9_ (by decide) rfl ?_
        refine re_goto (pc := 75) 47 (by decide +kernel : decode cX13_forgedOf 75 = .ok (.goto (-28), 3)) (by decide) ?_
        refine re_sub [1, 2, 3, 4, 5, 6, 0] (lv1 := [(0, .ref a0), (1, .int x1), (2, .int x2), (3, .int x3), (4, .int x4), (5, .int x5), (6, .int x8_)]) rfl ?_
        exact ih a0 x1 x2 x3 x4 x5 x8_ _ h
noncomputable def cX13_forgedOf_12 (n : Nat) (S : rvS) : Nat → Nat → Int32 → Int32 → Int32 → Int32 → Option Int32
  | 0, _, _, _, _, _ => none
  | k + 1, a0, x1, x2, x3, x4 =>
    if x3 ≤ x4 then (
      some x2)
    else (
      (rv_ck S 11 a0).bind fun u2_ =>
      (fnX13_ofCoin n S a0 x1 ((3 : Int32) + x4)).bind fun x5_ =>
      (rv_ck S 11 a0).bind fun u7_ =>
      (fnX13_ofCoin n S a0 x1 (1 : Int32)).bind fun x10_ =>
      if x5_ = x10_ then (
        rv_lt (x2 ||| (2 : Int32)) fun x13_ =>
        cX13_forgedOf_47 n (fun a0 x1 x2 x3 x4 => cX13_forgedOf_12 n S k a0 x1 x2 x3 x4) S n a0 x1 x13_ x3 x4 x5_ (0 : Int32))
      else (
        cX13_forgedOf_47 n (fun a0 x1 x2 x3 x4 => cX13_forgedOf_12 n S k a0 x1 x2 x3 x4) S n a0 x1 x2 x3 x4 x5_ (0 : Int32)))
set_option maxRecDepth 20000 in
set_option maxHeartbeats 4000000 in
theorem eX13_forgedOf_12 (n : Nat) (S : rvS) : ∀ (k : Nat) (a0 : Nat) (x1 : Int32) (x2 : Int32) (x3 : Int32) (x4 : Int32) (r : Int32), cX13_forgedOf_12 n S k a0 x1 x2 x3 x4 = some r → rv_Ev mX13_forgedOf 2 12 [(0, .ref a0), (1, .int x1), (2, .int x2), (3, .int x3), (4, .int x4)] [] S (some (.int r)) S := by
  intro k
  induction k with
  | zero => intro a0 x1 x2 x3 x4 r h; exact absurd h (by simp [cX13_forgedOf_12])
  | succ k ih =>
    intro a0 x1 x2 x3 x4 r h
    unfold cX13_forgedOf_12 at h
    refine re_iload (pc := 12) 4 (by decide +kernel : decode cX13_forgedOf 12 = .ok (.iload 4, 2)) rfl ?_
    refine re_iloadn (pc := 14) 3 (by decide +kernel : decode cX13_forgedOf 14 = .ok (.iload_n 3, 1)) rfl ?_
    rcases rv_if_e h with ⟨g1_, h⟩ | ⟨g1_, h⟩
    · refine re_icmp_ge_t (pc := 15) 136 (by decide +kernel : decode cX13_forgedOf 15 = .ok (.if_icmp .ge 121, 3)) (by decide) g1_ ?_
      refine re_iloadn (pc := 136) 2 (by decide +kernel : decode cX13_forgedOf 136 = .ok (.iload_n 2, 1)) rfl ?_
      cases h
      exact re_iret (fun ty hty => by cases hty; rfl) (by decide +kernel : decode cX13_forgedOf 137 = .ok (.ireturn, 1))
    · refine re_icmp_ge_f (pc := 15) 136 (by decide +kernel : decode cX13_forgedOf 15 = .ok (.if_icmp .ge 121, 3)) (by decide) g1_ ?_
      refine re_aloadn (pc := 18) 0 (by decide +kernel : decode cX13_forgedOf 18 = .ok (.aload_n 0, 1)) rfl ?_
      refine re_iloadn (pc := 19) 1 (by decide +kernel : decode cX13_forgedOf 19 = .ok (.iload_n 1, 1)) rfl ?_
      refine re_iconst (pc := 20) (3 : Int32) (by decide +kernel : decode cX13_forgedOf 20 = .ok (.iconst 3, 1)) (by decide) ?_
      refine re_iload (pc := 21) 4 (by decide +kernel : decode cX13_forgedOf 21 = .ok (.iload 4, 2)) rfl ?_
      refine re_iadd (pc := 23) (by decide +kernel : decode cX13_forgedOf 23 = .ok (.iadd, 1)) ?_
      obtain ⟨u2_, g3_, h⟩ := rv_b_e h
      obtain ⟨x5_, g6_, h⟩ := rv_b_e h
      have m4_ := metX13_ofCoin n S a0 x1 ((3 : Int32) + x4) _ g6_
      refine re_cV (pc := 24) [.int x1, .int ((3 : Int32) + x4)] m4_ (rv_okl.k ⟨rfl, rfl⟩) (rv_up.rf _ _) (by decide) (rv_ck_e g3_) ⟨by decide, rfl⟩ (Nat.le_of_ble_eq_true rfl) lVX13_271 rfl (by decide +kernel : decode cX13_forgedOf 24 = .ok (.invokevirtual 271, 3)) ?_
      refine re_istore (pc := 27) (lv1 := [(5, .int x5_), (0, .ref a0), (1, .int x1), (2, .int x2), (3, .int x3), (4, .int x4)]) (by decide +kernel : decode cX13_forgedOf 27 = .ok (.istore 5, 2)) (by decide) rfl ?_
      refine re_iload (pc := 29) 0 (by decide +kernel : decode cX13_forgedOf 29 = .ok (.iload 5, 2)) rfl ?_
      refine re_aloadn (pc := 31) 1 (by decide +kernel : decode cX13_forgedOf 31 = .ok (.aload_n 0, 1)) rfl ?_
      refine re_iloadn (pc := 32) 2 (by decide +kernel : decode cX13_forgedOf 32 = .ok (.iload_n 1, 1)) rfl ?_
      refine re_iconst (pc := 33) (1 : Int32) (by decide +kernel : decode cX13_forgedOf 33 = .ok (.iconst 1, 1)) (by decide) ?_
      obtain ⟨u7_, g8_, h⟩ := rv_b_e h
      obtain ⟨x10_, g11_, h⟩ := rv_b_e h
      have m9_ := metX13_ofCoin n S a0 x1 (1 : Int32) _ g11_
      refine re_cV (pc := 34) [.int x1, .int (1 : Int32)] m9_ (rv_okl.k ⟨rfl, rfl⟩) (rv_up.rf _ _) (by decide) (rv_ck_e g8_) ⟨by decide, rfl⟩ (Nat.le_of_ble_eq_true rfl) lVX13_271 rfl (by decide +kernel : decode cX13_forgedOf 34 = .ok (.invokevirtual 271, 3)) ?_
      rcases rv_if_e h with ⟨g12_, h⟩ | ⟨g12_, h⟩
      · refine re_icmp_ne_f (pc := 37) 44 (by decide +kernel : decode cX13_forgedOf 37 = .ok (.if_icmp .ne 7, 3)) (by decide) g12_ ?_
        refine re_iloadn (pc := 40) 3 (by decide +kernel : decode cX13_forgedOf 40 = .ok (.iload_n 2, 1)) rfl ?_
        refine re_iconst (pc := 41) (2 : Int32) (by decide +kernel : decode cX13_forgedOf 41 = .ok (.iconst 2, 1)) (by decide) ?_
        refine re_ior (pc := 42) (by decide +kernel : decode cX13_forgedOf 42 = .ok (.ior, 1)) ?_
        obtain ⟨x13_, g14_, h⟩ := rv_lt_e h
        refine re_nI (pc := 43) g14_ ?_
        refine re_istoren (pc := 43) (lv1 := [(2, .int x13_), (5, .int x5_), (0, .ref a0), (1, .int x1), (3, .int x3), (4, .int x4)]) (by decide +kernel : decode cX13_forgedOf 43 = .ok (.istore_n 2, 1)) rfl (by decide) rfl ?_
        refine re_iconst (pc := 44) (0 : Int32) (by decide +kernel : decode cX13_forgedOf 44 = .ok (.iconst 0, 1)) (by decide) ?_
        refine re_istore (pc := 45) (lv1 := [(6, .int (0 : Int32)), (2, .int x13_), (5, .int x5_), (0, .ref a0), (1, .int x1), (3, .int x3), (4, .int x4)]) (by decide +kernel : decode cX13_forgedOf 45 = .ok (.istore 6, 2)) (by decide) rfl ?_
        refine re_sub [3, 4, 1, 5, 6, 2, 0] (lv1 := [(0, .ref a0), (1, .int x1), (2, .int x13_), (3, .int x3), (4, .int x4), (5, .int x5_), (6, .int (0 : Int32))]) rfl ?_
        exact eX13_forgedOf_47 n S (fun a0 x1 x2 x3 x4 => cX13_forgedOf_12 n S k a0 x1 x2 x3 x4) (fun a0 x1 x2 x3 x4 _ h => ih a0 x1 x2 x3 x4 _ h) n a0 x1 x13_ x3 x4 x5_ (0 : Int32) _ h
      · refine re_icmp_ne_t (pc := 37) 44 (by decide +kernel : decode cX13_forgedOf 37 = .ok (.if_icmp .ne 7, 3)) (by decide) g12_ ?_
        refine re_iconst (pc := 44) (0 : Int32) (by decide +kernel : decode cX13_forgedOf 44 = .ok (.iconst 0, 1)) (by decide) ?_
        refine re_istore (pc := 45) (lv1 := [(6, .int (0 : Int32)), (5, .int x5_), (0, .ref a0), (1, .int x1), (2, .int x2), (3, .int x3), (4, .int x4)]) (by decide +kernel : decode cX13_forgedOf 45 = .ok (.istore 6, 2)) (by decide) rfl ?_
        refine re_sub [2, 3, 4, 5, 6, 1, 0] (lv1 := [(0, .ref a0), (1, .int x1), (2, .int x2), (3, .int x3), (4, .int x4), (5, .int x5_), (6, .int (0 : Int32))]) rfl ?_
        exact eX13_forgedOf_47 n S (fun a0 x1 x2 x3 x4 => cX13_forgedOf_12 n S k a0 x1 x2 x3 x4) (fun a0 x1 x2 x3 x4 _ h => ih a0 x1 x2 x3 x4 _ h) n a0 x1 x2 x3 x4 x5_ (0 : Int32) _ h
noncomputable def fnX13_forgedOf (n : Nat) (S : rvS) (a0 : Nat) (x1 : Int32) : Option Int32 :=
  (rv_ck S 11 a0).bind fun u1_ =>
  (fnX13_ofCoin n S a0 x1 (2 : Int32)).bind fun x4_ =>
  cX13_forgedOf_12 n S n a0 x1 (0 : Int32) x4_ (0 : Int32)
set_option maxRecDepth 20000 in
set_option maxHeartbeats 4000000 in
theorem eX13_forgedOf_in (n : Nat) (S : rvS) (a0 : Nat) (x1 : Int32) (r : Int32) (h : fnX13_forgedOf n S a0 x1 = some r) : rv_Ev mX13_forgedOf 2 0 [(0, .ref a0), (1, .int x1)] [] S (some (.int r)) S := by
  unfold fnX13_forgedOf at h
  refine re_iconst (pc := 0) (0 : Int32) (by decide +kernel : decode cX13_forgedOf 0 = .ok (.iconst 0, 1)) (by decide) ?_
  refine re_istoren (pc := 1) (lv1 := [(2, .int (0 : Int32)), (0, .ref a0), (1, .int x1)]) (by decide +kernel : decode cX13_forgedOf 1 = .ok (.istore_n 2, 1)) rfl (by decide) rfl ?_
  refine re_aloadn (pc := 2) 1 (by decide +kernel : decode cX13_forgedOf 2 = .ok (.aload_n 0, 1)) rfl ?_
  refine re_iloadn (pc := 3) 2 (by decide +kernel : decode cX13_forgedOf 3 = .ok (.iload_n 1, 1)) rfl ?_
  refine re_iconst (pc := 4) (2 : Int32) (by decide +kernel : decode cX13_forgedOf 4 = .ok (.iconst 2, 1)) (by decide) ?_
  obtain ⟨u1_, g2_, h⟩ := rv_b_e h
  obtain ⟨x4_, g5_, h⟩ := rv_b_e h
  have m3_ := metX13_ofCoin n S a0 x1 (2 : Int32) _ g5_
  refine re_cV (pc := 5) [.int x1, .int (2 : Int32)] m3_ (rv_okl.k ⟨rfl, rfl⟩) (rv_up.rf _ _) (by decide) (rv_ck_e g2_) ⟨by decide, rfl⟩ (Nat.le_of_ble_eq_true rfl) lVX13_271 rfl (by decide +kernel : decode cX13_forgedOf 5 = .ok (.invokevirtual 271, 3)) ?_
  refine re_istoren (pc := 8) (lv1 := [(3, .int x4_), (2, .int (0 : Int32)), (0, .ref a0), (1, .int x1)]) (by decide +kernel : decode cX13_forgedOf 8 = .ok (.istore_n 3, 1)) rfl (by decide) rfl ?_
  refine re_iconst (pc := 9) (0 : Int32) (by decide +kernel : decode cX13_forgedOf 9 = .ok (.iconst 0, 1)) (by decide) ?_
  refine re_istore (pc := 10) (lv1 := [(4, .int (0 : Int32)), (3, .int x4_), (2, .int (0 : Int32)), (0, .ref a0), (1, .int x1)]) (by decide +kernel : decode cX13_forgedOf 10 = .ok (.istore 4, 2)) (by decide) rfl ?_
  refine re_sub [3, 4, 2, 1, 0] (lv1 := [(0, .ref a0), (1, .int x1), (2, .int (0 : Int32)), (3, .int x4_), (4, .int (0 : Int32))]) rfl ?_
  exact eX13_forgedOf_12 n S n a0 x1 (0 : Int32) x4_ (0 : Int32) _ h
theorem metX13_forgedOf (n : Nat) (S : rvS) (a0 : Nat) (x1 : Int32) (r : Int32) (h : fnX13_forgedOf n S a0 x1 = some r) : rv_Met yX13_forgedOf mX13_forgedOf 2 [.ref a0, .int x1] S (some (.int r)) S := rv_Met.of ⟨by decide +kernel, rfl, (fun z => by first | rfl | cases z), rfl⟩ (Nat.le_of_ble_eq_true rfl) rfl (eX13_forgedOf_in n S a0 x1 r h)
noncomputable def cX13_hold_2 (n : Nat) : Nat → rvS → Nat → Int32 → Int32 → Option rvS
  | 0, _, _, _, _ => none
  | k + 1, S, a0, x1, x2 =>
    if (5 : Int32) ≤ x2 then (
      some S)
    else (
      (rv_gR S 11 a0 24).bind fun a2_ =>
      (rv_ck S 11 a0).bind fun u4_ =>
      (fnX13_ofCoin n S a0 x1 ((1 : Int32) + x2)).bind fun x7_ =>
      (rv_uI S a2_ x2 x7_).bind fun S9_ =>
      rv_lt (x2 + (1)) fun x11_ =>
      cX13_hold_2 n k S9_ a0 x1 x11_)
set_option maxRecDepth 20000 in
set_option maxHeartbeats 4000000 in
theorem eX13_hold_2 (n : Nat) : ∀ (k : Nat) (S : rvS) (a0 : Nat) (x1 : Int32) (x2 : Int32) (S' : rvS), cX13_hold_2 n k S a0 x1 x2 = some S' → rv_Ev mX13_hold 1 2 [(0, .ref a0), (1, .int x1), (2, .int x2)] [] S none S' := by
  intro k
  induction k with
  | zero => intro S a0 x1 x2 S' h; exact absurd h (by simp [cX13_hold_2])
  | succ k ih =>
    intro S a0 x1 x2 S' h
    unfold cX13_hold_2 at h
    refine re_iloadn (pc := 2) 2 (by decide +kernel : decode cX13_hold 2 = .ok (.iload_n 2, 1)) rfl ?_
    refine re_iconst (pc := 3) (5 : Int32) (by decide +kernel : decode cX13_hold 3 = .ok (.iconst 5, 1)) (by decide) ?_
    rcases rv_if_e h with ⟨g1_, h⟩ | ⟨g1_, h⟩
    · refine re_icmp_ge_t (pc := 4) 27 (by decide +kernel : decode cX13_hold 4 = .ok (.if_icmp .ge 23, 3)) (by decide) g1_ ?_
      cases h
      exact re_vret (by decide +kernel : decode cX13_hold 27 = .ok (.return_, 1))
    · refine re_icmp_ge_f (pc := 4) 27 (by decide +kernel : decode cX13_hold 4 = .ok (.if_icmp .ge 23, 3)) (by decide) g1_ ?_
      refine re_aloadn (pc := 7) 0 (by decide +kernel : decode cX13_hold 7 = .ok (.aload_n 0, 1)) rfl ?_
      obtain ⟨a2_, g3_, h⟩ := rv_b_e h
      refine re_gR (pc := 8) g3_ lfX13_39 rfl (by decide +kernel : decode cX13_hold 8 = .ok (.getfield 39, 3)) ?_
      refine re_iloadn (pc := 11) 2 (by decide +kernel : decode cX13_hold 11 = .ok (.iload_n 2, 1)) rfl ?_
      refine re_aloadn (pc := 12) 0 (by decide +kernel : decode cX13_hold 12 = .ok (.aload_n 0, 1)) rfl ?_
      refine re_iloadn (pc := 13) 1 (by decide +kernel : decode cX13_hold 13 = .ok (.iload_n 1, 1)) rfl ?_
      refine re_iconst (pc := 14) (1 : Int32) (by decide +kernel : decode cX13_hold 14 = .ok (.iconst 1, 1)) (by decide) ?_
      refine re_iloadn (pc := 15) 2 (by decide +kernel : decode cX13_hold 15 = .ok (.iload_n 2, 1)) rfl ?_
      refine re_iadd (pc := 16) (by decide +kernel : decode cX13_hold 16 = .ok (.iadd, 1)) ?_
      obtain ⟨u4_, g5_, h⟩ := rv_b_e h
      obtain ⟨x7_, g8_, h⟩ := rv_b_e h
      have m6_ := metX13_ofCoin n S a0 x1 ((1 : Int32) + x2) _ g8_
      refine re_cV (pc := 17) [.int x1, .int ((1 : Int32) + x2)] m6_ (rv_okl.k ⟨rfl, rfl⟩) (rv_up.rf _ _) (by decide) (rv_ck_e g5_) ⟨by decide, rfl⟩ (Nat.le_of_ble_eq_true rfl) lVX13_271 rfl (by decide +kernel : decode cX13_hold 17 = .ok (.invokevirtual 271, 3)) ?_
      obtain ⟨S9_, g10_, h⟩ := rv_b_e h
      refine re_uI (pc := 20) g10_ (by decide +kernel : decode cX13_hold 20 = .ok (.iastore, 1)) ?_
      obtain ⟨x11_, g12_, h⟩ := rv_lt_e h
      refine re_iinc (pc := 21) 2 x11_ (lv1 := [(2, .int x11_), (0, .ref a0), (1, .int x1)]) (by decide +kernel : decode cX13_hold 21 = .ok (.iinc 2 1, 3)) rfl g12_ (by decide) rfl ?_
      refine re_goto (pc := 24) 2 (by decide +kernel : decode cX13_hold 24 = .ok (.goto (-22), 3)) (by decide) ?_
      refine re_sub [1, 2, 0] (lv1 := [(0, .ref a0), (1, .int x1), (2, .int x11_)]) rfl ?_
      exact ih S9_ a0 x1 x11_ _ h
noncomputable def fnX13_hold (n : Nat) (S : rvS) (a0 : Nat) (x1 : Int32) : Option rvS :=
  cX13_hold_2 n n S a0 x1 (0 : Int32)
set_option maxRecDepth 20000 in
set_option maxHeartbeats 4000000 in
theorem eX13_hold_in (n : Nat) (S : rvS) (a0 : Nat) (x1 : Int32) (S' : rvS) (h : fnX13_hold n S a0 x1 = some S') : rv_Ev mX13_hold 1 0 [(0, .ref a0), (1, .int x1)] [] S none S' := by
  unfold fnX13_hold at h
  refine re_iconst (pc := 0) (0 : Int32) (by decide +kernel : decode cX13_hold 0 = .ok (.iconst 0, 1)) (by decide) ?_
  refine re_istoren (pc := 1) (lv1 := [(2, .int (0 : Int32)), (0, .ref a0), (1, .int x1)]) (by decide +kernel : decode cX13_hold 1 = .ok (.istore_n 2, 1)) rfl (by decide) rfl ?_
  refine re_sub [1, 2, 0] (lv1 := [(0, .ref a0), (1, .int x1), (2, .int (0 : Int32))]) rfl ?_
  exact eX13_hold_2 n n S a0 x1 (0 : Int32) _ h
theorem metX13_hold (n : Nat) (S : rvS) (a0 : Nat) (x1 : Int32) (S' : rvS) (h : fnX13_hold n S a0 x1 = some S') : rv_Met yX13_hold mX13_hold 1 [.ref a0, .int x1] S none S' := rv_Met.of ⟨by decide +kernel, rfl, (fun z => by first | rfl | cases z), rfl⟩ (Nat.le_of_ble_eq_true rfl) rfl (eX13_hold_in n S a0 x1 S' h)
noncomputable def cX13_whyNot_62 (n : Nat) (S : rvS) (a0 : Nat) (x1 : Int32) : Option Int32 :=
  (rv_ck S 11 a0).bind fun u1_ =>
  (fnX13_ofWho n S a0 x1 (0 : Int32)).bind fun x4_ =>
  (rv_gR S 11 a0 24).bind fun a6_ =>
  (rv_aI S 0 a6_ (0 : Int32)).bind fun x8_ =>
  (rv_ck S 11 a0).bind fun u10_ =>
  (fnX13_ofWho n S a0 x8_ (0 : Int32)).bind fun x13_ =>
  (rv_ck S 11 a0).bind fun u15_ =>
  (fnX13_areNear n S a0 x4_ x13_).bind fun x18_ =>
  if x18_ = 0 then (
    some (4 : Int32))
  else (
    some (0 : Int32))
set_option maxRecDepth 20000 in
set_option maxHeartbeats 4000000 in
theorem eX13_whyNot_62 (n : Nat) (S : rvS) (a0 : Nat) (x1 : Int32) (r : Int32) (h : cX13_whyNot_62 n S a0 x1 = some r) : rv_Ev mX13_whyNot 2 62 [(0, .ref a0), (1, .int x1)] [] S (some (.int r)) S := by
  unfold cX13_whyNot_62 at h
  refine re_aloadn (pc := 62) 0 (by decide +kernel : decode cX13_whyNot 62 = .ok (.aload_n 0, 1)) rfl ?_
  refine re_aloadn (pc := 63) 0 (by decide +kernel : decode cX13_whyNot 63 = .ok (.aload_n 0, 1)) rfl ?_
  refine re_iloadn (pc := 64) 1 (by decide +kernel : decode cX13_whyNot 64 = .ok (.iload_n 1, 1)) rfl ?_
  refine re_iconst (pc := 65) (0 : Int32) (by decide +kernel : decode cX13_whyNot 65 = .ok (.iconst 0, 1)) (by decide) ?_
  obtain ⟨u1_, g2_, h⟩ := rv_b_e h
  obtain ⟨x4_, g5_, h⟩ := rv_b_e h
  have m3_ := metX13_ofWho n S a0 x1 (0 : Int32) _ g5_
  refine re_cV (pc := 66) [.int x1, .int (0 : Int32)] m3_ (rv_okl.k ⟨rfl, rfl⟩) (rv_up.rf _ _) (by decide) (rv_ck_e g2_) ⟨by decide, rfl⟩ (Nat.le_of_ble_eq_true rfl) lVX13_261 rfl (by decide +kernel : decode cX13_whyNot 66 = .ok (.invokevirtual 261, 3)) ?_
  refine re_aloadn (pc := 69) 0 (by decide +kernel : decode cX13_whyNot 69 = .ok (.aload_n 0, 1)) rfl ?_
  refine re_aloadn (pc := 70) 0 (by decide +kernel : decode cX13_whyNot 70 = .ok (.aload_n 0, 1)) rfl ?_
  obtain ⟨a6_, g7_, h⟩ := rv_b_e h
  refine re_gR (pc := 71) g7_ lfX13_39 rfl (by decide +kernel : decode cX13_whyNot 71 = .ok (.getfield 39, 3)) ?_
  refine re_iconst (pc := 74) (0 : Int32) (by decide +kernel : decode cX13_whyNot 74 = .ok (.iconst 0, 1)) (by decide) ?_
  obtain ⟨x8_, g9_, h⟩ := rv_b_e h
  refine re_aI (pc := 75) g9_ (by decide +kernel : decode cX13_whyNot 75 = .ok (.iaload, 1)) ?_
  refine re_iconst (pc := 76) (0 : Int32) (by decide +kernel : decode cX13_whyNot 76 = .ok (.iconst 0, 1)) (by decide) ?_
  obtain ⟨u10_, g11_, h⟩ := rv_b_e h
  obtain ⟨x13_, g14_, h⟩ := rv_b_e h
  have m12_ := metX13_ofWho n S a0 x8_ (0 : Int32) _ g14_
  refine re_cV (pc := 77) [.int x8_, .int (0 : Int32)] m12_ (rv_okl.k ⟨rfl, rfl⟩) (rv_up.rf _ _) (by decide) (rv_ck_e g11_) ⟨by decide, rfl⟩ (Nat.le_of_ble_eq_true rfl) lVX13_261 rfl (by decide +kernel : decode cX13_whyNot 77 = .ok (.invokevirtual 261, 3)) ?_
  obtain ⟨u15_, g16_, h⟩ := rv_b_e h
  obtain ⟨x18_, g19_, h⟩ := rv_b_e h
  have m17_ := metX13_areNear n S a0 x4_ x13_ _ g19_
  refine re_cV (pc := 80) [.int x4_, .int x13_] m17_ (rv_okl.k ⟨rfl, rfl⟩) (rv_up.rf _ _) (by decide) (rv_ck_e g16_) ⟨by decide, rfl⟩ (Nat.le_of_ble_eq_true rfl) lVX13_274 rfl (by decide +kernel : decode cX13_whyNot 80 = .ok (.invokevirtual 274, 3)) ?_
  rcases rv_if_e h with ⟨g20_, h⟩ | ⟨g20_, h⟩
  · refine re_if_eq_t (pc := 83) 90 (by decide +kernel : decode cX13_whyNot 83 = .ok (.ifCond .eq 7, 3)) (by decide) g20_ ?_
    refine re_iconst (pc := 90) (4 : Int32) (by decide +kernel : decode cX13_whyNot 90 = .ok (.iconst 4, 1)) (by decide) ?_
    cases h
    exact re_iret (fun ty hty => by cases hty; rfl) (by decide +kernel : decode cX13_whyNot 91 = .ok (.ireturn, 1))
  · refine re_if_eq_f (pc := 83) 90 (by decide +kernel : decode cX13_whyNot 83 = .ok (.ifCond .eq 7, 3)) (by decide) g20_ ?_
    refine re_iconst (pc := 86) (0 : Int32) (by decide +kernel : decode cX13_whyNot 86 = .ok (.iconst 0, 1)) (by decide) ?_
    refine re_goto (pc := 87) 91 (by decide +kernel : decode cX13_whyNot 87 = .ok (.goto 4, 3)) (by decide) ?_
    cases h
    exact re_iret (fun ty hty => by cases hty; rfl) (by decide +kernel : decode cX13_whyNot 91 = .ok (.ireturn, 1))
noncomputable def cX13_whyNot_28 (n : Nat) (S : rvS) : Nat → Nat → Int32 → Int32 → Option Int32
  | 0, _, _, _ => none
  | k + 1, a0, x1, x2 =>
    (rv_gR S 11 a0 24).bind fun a1_ =>
    (rv_aI S 0 a1_ (1 : Int32)).bind fun x3_ =>
    if x3_ ≤ x2 then (
      cX13_whyNot_62 n S a0 x1)
    else (
      (rv_gR S 11 a0 24).bind fun a6_ =>
      (rv_aI S 0 a6_ ((2 : Int32) + x2)).bind fun x8_ =>
      (rv_ck S 11 a0).bind fun u10_ =>
      (fnX13_areOfOneHouse n S a0 x1 x8_).bind fun x13_ =>
      if x13_ = 0 then (
        rv_lt (x2 + (1)) fun x16_ =>
        cX13_whyNot_28 n S k a0 x1 x16_)
      else (
        some (3 : Int32)))
set_option maxRecDepth 20000 in
set_option maxHeartbeats 4000000 in
theorem eX13_whyNot_28 (n : Nat) (S : rvS) : ∀ (k : Nat) (a0 : Nat) (x1 : Int32) (x2 : Int32) (r : Int32), cX13_whyNot_28 n S k a0 x1 x2 = some r → rv_Ev mX13_whyNot 2 28 [(0, .ref a0), (1, .int x1), (2, .int x2)] [] S (some (.int r)) S := by
  intro k
  induction k with
  | zero => intro a0 x1 x2 r h; exact absurd h (by simp [cX13_whyNot_28])
  | succ k ih =>
    intro a0 x1 x2 r h
    unfold cX13_whyNot_28 at h
    refine re_iloadn (pc := 28) 2 (by decide +kernel : decode cX13_whyNot 28 = .ok (.iload_n 2, 1)) rfl ?_
    refine re_aloadn (pc := 29) 0 (by decide +kernel : decode cX13_whyNot 29 = .ok (.aload_n 0, 1)) rfl ?_
    obtain ⟨a1_, g2_, h⟩ := rv_b_e h
    refine re_gR (pc := 30) g2_ lfX13_39 rfl (by decide +kernel : decode cX13_whyNot 30 = .ok (.getfield 39, 3)) ?_
    refine re_iconst (pc := 33) (1 : Int32) (by decide +kernel : decode cX13_whyNot 33 = .ok (.iconst 1, 1)) (by decide) ?_
    obtain ⟨x3_, g4_, h⟩ := rv_b_e h
    refine re_aI (pc := 34) g4_ (by decide +kernel : decode cX13_whyNot 34 = .ok (.iaload, 1)) ?_
    rcases rv_if_e h with ⟨g5_, h⟩ | ⟨g5_, h⟩
    · refine re_icmp_ge_t (pc := 35) 62 (by decide +kernel : decode cX13_whyNot 35 = .ok (.if_icmp .ge 27, 3)) (by decide) g5_ ?_
      refine re_sub [0, 1] (lv1 := [(0, .ref a0), (1, .int x1)]) rfl ?_
      exact eX13_whyNot_62 n S a0 x1 _ h
    · refine re_icmp_ge_f (pc := 35) 62 (by decide +kernel : decode cX13_whyNot 35 = .ok (.if_icmp .ge 27, 3)) (by decide) g5_ ?_
      refine re_aloadn (pc := 38) 0 (by decide +kernel : decode cX13_whyNot 38 = .ok (.aload_n 0, 1)) rfl ?_
      refine re_iloadn (pc := 39) 1 (by decide +kernel : decode cX13_whyNot 39 = .ok (.iload_n 1, 1)) rfl ?_
      refine re_aloadn (pc := 40) 0 (by decide +kernel : decode cX13_whyNot 40 = .ok (.aload_n 0, 1)) rfl ?_
      obtain ⟨a6_, g7_, h⟩ := rv_b_e h
      refine re_gR (pc := 41) g7_ lfX13_39 rfl (by decide +kernel : decode cX13_whyNot 41 = .ok (.getfield 39, 3)) ?_
      refine re_iconst (pc := 44) (2 : Int32) (by decide +kernel : decode cX13_whyNot 44 = .ok (.iconst 2, 1)) (by decide) ?_
      refine re_iloadn (pc := 45) 2 (by decide +kernel : decode cX13_whyNot 45 = .ok (.iload_n 2, 1)) rfl ?_
      refine re_iadd (pc := 46) (by decide +kernel : decode cX13_whyNot 46 = .ok (.iadd, 1)) ?_
      obtain ⟨x8_, g9_, h⟩ := rv_b_e h
      refine re_aI (pc := 47) g9_ (by decide +kernel : decode cX13_whyNot 47 = .ok (.iaload, 1)) ?_
      obtain ⟨u10_, g11_, h⟩ := rv_b_e h
      obtain ⟨x13_, g14_, h⟩ := rv_b_e h
      have m12_ := metX13_areOfOneHouse n S a0 x1 x8_ _ g14_
      refine re_cV (pc := 48) [.int x1, .int x8_] m12_ (rv_okl.k ⟨rfl, rfl⟩) (rv_up.rf _ _) (by decide) (rv_ck_e g11_) ⟨by decide, rfl⟩ (Nat.le_of_ble_eq_true rfl) lVX13_295 rfl (by decide +kernel : decode cX13_whyNot 48 = .ok (.invokevirtual 295, 3)) ?_
      rcases rv_if_e h with ⟨g15_, h⟩ | ⟨g15_, h⟩
      · refine re_if_eq_t (pc := 51) 56 (by decide +kernel : decode cX13_whyNot 51 = .ok (.ifCond .eq 5, 3)) (by decide) g15_ ?_
        obtain ⟨x16_, g17_, h⟩ := rv_lt_e h
        refine re_iinc (pc := 56) 2 x16_ (lv1 := [(2, .int x16_), (0, .ref a0), (1, .int x1)]) (by decide +kernel : decode cX13_whyNot 56 = .ok (.iinc 2 1, 3)) rfl g17_ (by decide) rfl ?_
        refine re_goto (pc := 59) 28 (by decide +kernel : decode cX13_whyNot 59 = .ok (.goto (-31), 3)) (by decide) ?_
        refine re_sub [1, 2, 0] (lv1 := [(0, .ref a0), (1, .int x1), (2, .int x16_)]) rfl ?_
        exact ih a0 x1 x16_ _ h
      · refine re_if_eq_f (pc := 51) 56 (by decide +kernel : decode cX13_whyNot 51 = .ok (.ifCond .eq 5, 3)) (by decide) g15_ ?_
        refine re_iconst (pc := 54) (3 : Int32) (by decide +kernel : decode cX13_whyNot 54 = .ok (.iconst 3, 1)) (by decide) ?_
        cases h
        exact re_iret (fun ty hty => by cases hty; rfl) (by decide +kernel : decode cX13_whyNot 55 = .ok (.ireturn, 1))
noncomputable def fnX13_whyNot (n : Nat) (S : rvS) (a0 : Nat) (x1 : Int32) : Option Int32 :=
  (rv_ck S 11 a0).bind fun u1_ =>
  (fnX13_isDead n S a0 x1).bind fun x4_ =>
  if x4_ = 0 then (
    (rv_gR S 11 a0 24).bind fun a7_ =>
    (rv_aI S 0 a7_ (0 : Int32)).bind fun x9_ =>
    (rv_ck S 11 a0).bind fun u11_ =>
    (fnX13_areOfOneHouse n S a0 x1 x9_).bind fun x14_ =>
    if x14_ = 0 then (
      cX13_whyNot_28 n S n a0 x1 (0 : Int32))
    else (
      some (2 : Int32)))
  else (
    some (1 : Int32))
set_option maxRecDepth 20000 in
set_option maxHeartbeats 4000000 in
theorem eX13_whyNot_in (n : Nat) (S : rvS) (a0 : Nat) (x1 : Int32) (r : Int32) (h : fnX13_whyNot n S a0 x1 = some r) : rv_Ev mX13_whyNot 2 0 [(0, .ref a0), (1, .int x1)] [] S (some (.int r)) S := by
  unfold fnX13_whyNot at h
  refine re_aloadn (pc := 0) 0 (by decide +kernel : decode cX13_whyNot 0 = .ok (.aload_n 0, 1)) rfl ?_
  refine re_iloadn (pc := 1) 1 (by decide +kernel : decode cX13_whyNot 1 = .ok (.iload_n 1, 1)) rfl ?_
  obtain ⟨u1_, g2_, h⟩ := rv_b_e h
  obtain ⟨x4_, g5_, h⟩ := rv_b_e h
  have m3_ := metX13_isDead n S a0 x1 _ g5_
  refine re_cV (pc := 2) [.int x1] m3_ (rv_okl.k ⟨rfl, rfl⟩) (rv_up.rf _ _) (by decide) (rv_ck_e g2_) ⟨by decide, rfl⟩ (Nat.le_of_ble_eq_true rfl) lVX13_292 rfl (by decide +kernel : decode cX13_whyNot 2 = .ok (.invokevirtual 292, 3)) ?_
  rcases rv_if_e h with ⟨g6_, h⟩ | ⟨g6_, h⟩
  · refine re_if_eq_t (pc := 5) 10 (by decide +kernel : decode cX13_whyNot 5 = .ok (.ifCond .eq 5, 3)) (by decide) g6_ ?_
    refine re_aloadn (pc := 10) 0 (by decide +kernel : decode cX13_whyNot 10 = .ok (.aload_n 0, 1)) rfl ?_
    refine re_iloadn (pc := 11) 1 (by decide +kernel : decode cX13_whyNot 11 = .ok (.iload_n 1, 1)) rfl ?_
    refine re_aloadn (pc := 12) 0 (by decide +kernel : decode cX13_whyNot 12 = .ok (.aload_n 0, 1)) rfl ?_
    obtain ⟨a7_, g8_, h⟩ := rv_b_e h
    refine re_gR (pc := 13) g8_ lfX13_39 rfl (by decide +kernel : decode cX13_whyNot 13 = .ok (.getfield 39, 3)) ?_
    refine re_iconst (pc := 16) (0 : Int32) (by decide +kernel : decode cX13_whyNot 16 = .ok (.iconst 0, 1)) (by decide) ?_
    obtain ⟨x9_, g10_, h⟩ := rv_b_e h
    refine re_aI (pc := 17) g10_ (by decide +kernel : decode cX13_whyNot 17 = .ok (.iaload, 1)) ?_
    obtain ⟨u11_, g12_, h⟩ := rv_b_e h
    obtain ⟨x14_, g15_, h⟩ := rv_b_e h
    have m13_ := metX13_areOfOneHouse n S a0 x1 x9_ _ g15_
    refine re_cV (pc := 18) [.int x1, .int x9_] m13_ (rv_okl.k ⟨rfl, rfl⟩) (rv_up.rf _ _) (by decide) (rv_ck_e g12_) ⟨by decide, rfl⟩ (Nat.le_of_ble_eq_true rfl) lVX13_295 rfl (by decide +kernel : decode cX13_whyNot 18 = .ok (.invokevirtual 295, 3)) ?_
    rcases rv_if_e h with ⟨g16_, h⟩ | ⟨g16_, h⟩
    · refine re_if_eq_t (pc := 21) 26 (by decide +kernel : decode cX13_whyNot 21 = .ok (.ifCond .eq 5, 3)) (by decide) g16_ ?_
      refine re_iconst (pc := 26) (0 : Int32) (by decide +kernel : decode cX13_whyNot 26 = .ok (.iconst 0, 1)) (by decide) ?_
      refine re_istoren (pc := 27) (lv1 := [(2, .int (0 : Int32)), (0, .ref a0), (1, .int x1)]) (by decide +kernel : decode cX13_whyNot 27 = .ok (.istore_n 2, 1)) rfl (by decide) rfl ?_
      refine re_sub [1, 2, 0] (lv1 := [(0, .ref a0), (1, .int x1), (2, .int (0 : Int32))]) rfl ?_
      exact eX13_whyNot_28 n S n a0 x1 (0 : Int32) _ h
    · refine re_if_eq_f (pc := 21) 26 (by decide +kernel : decode cX13_whyNot 21 = .ok (.ifCond .eq 5, 3)) (by decide) g16_ ?_
      refine re_iconst (pc := 24) (2 : Int32) (by decide +kernel : decode cX13_whyNot 24 = .ok (.iconst 2, 1)) (by decide) ?_
      cases h
      exact re_iret (fun ty hty => by cases hty; rfl) (by decide +kernel : decode cX13_whyNot 25 = .ok (.ireturn, 1))
  · refine re_if_eq_f (pc := 5) 10 (by decide +kernel : decode cX13_whyNot 5 = .ok (.ifCond .eq 5, 3)) (by decide) g6_ ?_
    refine re_iconst (pc := 8) (1 : Int32) (by decide +kernel : decode cX13_whyNot 8 = .ok (.iconst 1, 1)) (by decide) ?_
    cases h
    exact re_iret (fun ty hty => by cases hty; rfl) (by decide +kernel : decode cX13_whyNot 9 = .ok (.ireturn, 1))
theorem metX13_whyNot (n : Nat) (S : rvS) (a0 : Nat) (x1 : Int32) (r : Int32) (h : fnX13_whyNot n S a0 x1 = some r) : rv_Met yX13_whyNot mX13_whyNot 2 [.ref a0, .int x1] S (some (.int r)) S := rv_Met.of ⟨by decide +kernel, rfl, (fun z => by first | rfl | cases z), rfl⟩ (Nat.le_of_ble_eq_true rfl) rfl (eX13_whyNot_in n S a0 x1 r h)
noncomputable def fnX13_whyNot_ (n : Nat) (S : rvS) (a0 : Nat) (x1 : Int32) (x2 : Int32) : Option (Int32 × rvS) :=
  (rv_ck S 11 a0).bind fun u1_ =>
  (fnX13_hold n S a0 x1).bind fun S4_ =>
  (rv_ck S4_ 11 a0).bind fun u7_ =>
  (fnX13_whyNot n S4_ a0 x2).bind fun x10_ =>
  some (x10_, S4_)
set_option maxRecDepth 20000 in
set_option maxHeartbeats 4000000 in
theorem eX13_whyNot__in (n : Nat) (S : rvS) (a0 : Nat) (x1 : Int32) (x2 : Int32) (r : Int32) (S' : rvS) (h : fnX13_whyNot_ n S a0 x1 x2 = some (r, S')) : rv_Ev mX13_whyNot_ 3 0 [(0, .ref a0), (1, .int x1), (2, .int x2)] [] S (some (.int r)) S' := by
  unfold fnX13_whyNot_ at h
  refine re_aloadn (pc := 0) 0 (by decide +kernel : decode cX13_whyNot_ 0 = .ok (.aload_n 0, 1)) rfl ?_
  refine re_iloadn (pc := 1) 1 (by decide +kernel : decode cX13_whyNot_ 1 = .ok (.iload_n 1, 1)) rfl ?_
  obtain ⟨u1_, g2_, h⟩ := rv_b_e h
  obtain ⟨S4_, g5_, h⟩ := rv_b_e h
  have m3_ := metX13_hold n S a0 x1 _ g5_
  have z6_ : rv_same S S4_ := m3_.sh rfl
  refine re_cV (pc := 2) [.int x1] m3_ (rv_okl.k z6_) (rv_up.sh z6_) (by decide) (rv_ck_e g2_) ⟨by decide, rfl⟩ (Nat.le_of_ble_eq_true rfl) lVX13_298 rfl (by decide +kernel : decode cX13_whyNot_ 2 = .ok (.invokevirtual 298, 3)) ?_
  refine re_aloadn (pc := 5) 0 (by decide +kernel : decode cX13_whyNot_ 5 = .ok (.aload_n 0, 1)) rfl ?_
  refine re_iloadn (pc := 6) 2 (by decide +kernel : decode cX13_whyNot_ 6 = .ok (.iload_n 2, 1)) rfl ?_
  obtain ⟨u7_, g8_, h⟩ := rv_b_e h
  obtain ⟨x10_, g11_, h⟩ := rv_b_e h
  have m9_ := metX13_whyNot n S4_ a0 x2 _ g11_
  refine re_cV (pc := 7) [.int x2] m9_ (rv_okl.k ⟨rfl, rfl⟩) (rv_up.rf _ _) (by decide) (rv_ck_e g8_) ⟨by decide, rfl⟩ (Nat.le_of_ble_eq_true rfl) lVX13_304 rfl (by decide +kernel : decode cX13_whyNot_ 7 = .ok (.invokevirtual 304, 3)) ?_
  cases h
  exact re_iret (fun ty hty => by cases hty; rfl) (by decide +kernel : decode cX13_whyNot_ 10 = .ok (.ireturn, 1))
theorem metX13_whyNot_ (n : Nat) (S : rvS) (a0 : Nat) (x1 : Int32) (x2 : Int32) (r : Int32) (S' : rvS) (h : fnX13_whyNot_ n S a0 x1 x2 = some (r, S')) : rv_Met yX13_whyNot_ mX13_whyNot_ 3 [.ref a0, .int x1, .int x2] S (some (.int r)) S' := rv_Met.of ⟨by decide +kernel, rfl, (fun z => by first | rfl | cases z), rfl⟩ (Nat.le_of_ble_eq_true rfl) rfl (eX13_whyNot__in n S a0 x1 x2 r S' h)
noncomputable def cX13_whomOf_4 (n : Nat) : Nat → rvS → Nat → Int32 → Int32 → Int32 → Option (Int32 × rvS)
  | 0, _, _, _, _, _ => none
  | k + 1, S, a0, x1, x2, x3 =>
    (rv_ck S 11 a0).bind fun u1_ =>
    (fnX13_whos n S a0).bind fun x4_ =>
    if x4_ ≤ x3 then (
      some (x2, S))
    else (
      (rv_ck S 11 a0).bind fun u7_ =>
      rv_bp (fnX13_whyNot_ n S a0 x1 x3) fun x10_ S11_ =>
      if x10_ = 0 then (
        rv_lt (x2 ||| ((1 : Int32) <<< (x3 &&& 31))) fun x17_ =>
        rv_lt (x3 + (1)) fun x19_ =>
        cX13_whomOf_4 n k S11_ a0 x1 x17_ x19_)
      else (
        rv_lt (x3 + (1)) fun x15_ =>
        cX13_whomOf_4 n k S11_ a0 x1 x2 x15_))
set_option maxRecDepth 20000 in
set_option maxHeartbeats 4000000 in
theorem eX13_whomOf_4 (n : Nat) : ∀ (k : Nat) (S : rvS) (a0 : Nat) (x1 : Int32) (x2 : Int32) (x3 : Int32) (r : Int32) (S' : rvS), cX13_whomOf_4 n k S a0 x1 x2 x3 = some (r, S') → rv_Ev mX13_whomOf 4 4 [(0, .ref a0), (1, .int x1), (2, .int x2), (3, .int x3)] [] S (some (.int r)) S' := by
  intro k
  induction k with
  | zero => intro S a0 x1 x2 x3 r S' h; exact absurd h (by simp [cX13_whomOf_4])
  | succ k ih =>
    intro S a0 x1 x2 x3 r S' h
    unfold cX13_whomOf_4 at h
    refine re_iloadn (pc := 4) 3 (by decide +kernel : decode cX13_whomOf 4 = .ok (.iload_n 3, 1)) rfl ?_
    refine re_aloadn (pc := 5) 0 (by decide +kernel : decode cX13_whomOf 5 = .ok (.aload_n 0, 1)) rfl ?_
    obtain ⟨u1_, g2_, h⟩ := rv_b_e h
    obtain ⟨x4_, g5_, h⟩ := rv_b_e h
    have m3_ := metX13_whos n S a0 _ g5_
    refine re_cV (pc := 6) [] m3_ (rv_okl.k ⟨rfl, rfl⟩) (rv_up.rf _ _) (by decide) (rv_ck_e g2_) ⟨by decide, rfl⟩ (Nat.le_of_ble_eq_true rfl) lVX13_255 rfl (by decide +kernel : decode cX13_whomOf 6 = .ok (.invokevirtual 255, 3)) ?_
    rcases rv_if_e h with ⟨g6_, h⟩ | ⟨g6_, h⟩
    · refine re_icmp_ge_t (pc := 9) 33 (by decide +kernel : decode cX13_whomOf 9 = .ok (.if_icmp .ge 24, 3)) (by decide) g6_ ?_
      refine re_iloadn (pc := 33) 2 (by decide +kernel : decode cX13_whomOf 33 = .ok (.iload_n 2, 1)) rfl ?_
      cases h
      exact re_iret (fun ty hty => by cases hty; rfl) (by decide +kernel : decode cX13_whomOf 34 = .ok (.ireturn, 1))
    · refine re_icmp_ge_f (pc := 9) 33 (by decide +kernel : decode cX13_whomOf 9 = .ok (.if_icmp .ge 24, 3)) (by decide) g6_ ?_
      refine re_aloadn (pc := 12) 0 (by decide +kernel : decode cX13_whomOf 12 = .ok (.aload_n 0, 1)) rfl ?_
      refine re_iloadn (pc := 13) 1 (by decide +kernel : decode cX13_whomOf 13 = .ok (.iload_n 1, 1)) rfl ?_
      refine re_iloadn (pc := 14) 3 (by decide +kernel : decode cX13_whomOf 14 = .ok (.iload_n 3, 1)) rfl ?_
      obtain ⟨u7_, g8_, h⟩ := rv_b_e h
      obtain ⟨x10_, S11_, g12_, h⟩ := rv_bp_e h
      have m9_ := metX13_whyNot_ n S a0 x1 x3 _ _ g12_
      have z13_ : rv_same S S11_ := m9_.sh rfl
      refine re_cV (pc := 15) [.int x1, .int x3] m9_ (rv_okl.k z13_) (rv_up.sh z13_) (by decide) (rv_ck_e g8_) ⟨by decide, rfl⟩ (Nat.le_of_ble_eq_true rfl) lVX13_307 rfl (by decide +kernel : decode cX13_whomOf 15 = .ok (.invokevirtual 307, 3)) ?_
      rcases rv_if_e h with ⟨g14_, h⟩ | ⟨g14_, h⟩
      · refine re_if_ne_f (pc := 18) 27 (by decide +kernel : decode cX13_whomOf 18 = .ok (.ifCond .ne 9, 3)) (by decide) g14_ ?_
        refine re_iloadn (pc := 21) 2 (by decide +kernel : decode cX13_whomOf 21 = .ok (.iload_n 2, 1)) rfl ?_
        refine re_iconst (pc := 22) (1 : Int32) (by decide +kernel : decode cX13_whomOf 22 = .ok (.iconst 1, 1)) (by decide) ?_
        refine re_iloadn (pc := 23) 3 (by decide +kernel : decode cX13_whomOf 23 = .ok (.iload_n 3, 1)) rfl ?_
        refine re_ishl (pc := 24) (by decide +kernel : decode cX13_whomOf 24 = .ok (.ishl, 1)) ?_
        refine re_ior (pc := 25) (by decide +kernel : decode cX13_whomOf 25 = .ok (.ior, 1)) ?_
        obtain ⟨x17_, g18_, h⟩ := rv_lt_e h
        refine re_nI (pc := 26) g18_ ?_
        refine re_istoren (pc := 26) (lv1 := [(2, .int x17_), (0, .ref a0), (1, .int x1), (3, .int x3)]) (by decide +kernel : decode cX13_whomOf 26 = .ok (.istore_n 2, 1)) rfl (by decide) rfl ?_
        obtain ⟨x19_, g20_, h⟩ := rv_lt_e h
        refine re_iinc (pc := 27) 3 x19_ (lv1 := [(3, .int x19_), (2, .int x17_), (0, .ref a0), (1, .int x1)]) (by decide +kernel : decode cX13_whomOf 27 = .ok (.iinc 3 1, 3)) rfl g20_ (by decide) rfl ?_
        refine re_goto (pc := 30) 4 (by decide +kernel : decode cX13_whomOf 30 = .ok (.goto (-26), 3)) (by decide) ?_
        refine re_sub [2, 3, 1, 0] (lv1 := [(0, .ref a0), (1, .int x1), (2, .int x17_), (3, .int x19_)]) rfl ?_
        exact ih S11_ a0 x1 x17_ x19_ _ _ h
      · refine re_if_ne_t (pc := 18) 27 (by decide +kernel : decode cX13_whomOf 18 = .ok (.ifCond .ne 9, 3)) (by decide) g14_ ?_
        obtain ⟨x15_, g16_, h⟩ := rv_lt_e h
        refine re_iinc (pc := 27) 3 x15_ (lv1 := [(3, .int x15_), (0, .ref a0), (1, .int x1), (2, .int x2)]) (by decide +kernel : decode cX13_whomOf 27 = .ok (.iinc 3 1, 3)) rfl g16_ (by decide) rfl ?_
        refine re_goto (pc := 30) 4 (by decide +kernel : decode cX13_whomOf 30 = .ok (.goto (-26), 3)) (by decide) ?_
        refine re_sub [1, 2, 3, 0] (lv1 := [(0, .ref a0), (1, .int x1), (2, .int x2), (3, .int x15_)]) rfl ?_
        exact ih S11_ a0 x1 x2 x15_ _ _ h
noncomputable def fnX13_whomOf (n : Nat) (S : rvS) (a0 : Nat) (x1 : Int32) : Option (Int32 × rvS) :=
  cX13_whomOf_4 n n S a0 x1 (0 : Int32) (0 : Int32)
set_option maxRecDepth 20000 in
set_option maxHeartbeats 4000000 in
theorem eX13_whomOf_in (n : Nat) (S : rvS) (a0 : Nat) (x1 : Int32) (r : Int32) (S' : rvS) (h : fnX13_whomOf n S a0 x1 = some (r, S')) : rv_Ev mX13_whomOf 4 0 [(0, .ref a0), (1, .int x1)] [] S (some (.int r)) S' := by
  unfold fnX13_whomOf at h
  refine re_iconst (pc := 0) (0 : Int32) (by decide +kernel : decode cX13_whomOf 0 = .ok (.iconst 0, 1)) (by decide) ?_
  refine re_istoren (pc := 1) (lv1 := [(2, .int (0 : Int32)), (0, .ref a0), (1, .int x1)]) (by decide +kernel : decode cX13_whomOf 1 = .ok (.istore_n 2, 1)) rfl (by decide) rfl ?_
  refine re_iconst (pc := 2) (0 : Int32) (by decide +kernel : decode cX13_whomOf 2 = .ok (.iconst 0, 1)) (by decide) ?_
  refine re_istoren (pc := 3) (lv1 := [(3, .int (0 : Int32)), (2, .int (0 : Int32)), (0, .ref a0), (1, .int x1)]) (by decide +kernel : decode cX13_whomOf 3 = .ok (.istore_n 3, 1)) rfl (by decide) rfl ?_
  refine re_sub [2, 3, 1, 0] (lv1 := [(0, .ref a0), (1, .int x1), (2, .int (0 : Int32)), (3, .int (0 : Int32))]) rfl ?_
  exact eX13_whomOf_4 n n S a0 x1 (0 : Int32) (0 : Int32) _ _ h
theorem metX13_whomOf (n : Nat) (S : rvS) (a0 : Nat) (x1 : Int32) (r : Int32) (S' : rvS) (h : fnX13_whomOf n S a0 x1 = some (r, S')) : rv_Met yX13_whomOf mX13_whomOf 4 [.ref a0, .int x1] S (some (.int r)) S' := rv_Met.of ⟨by decide +kernel, rfl, (fun z => by first | rfl | cases z), rfl⟩ (Nat.le_of_ble_eq_true rfl) rfl (eX13_whomOf_in n S a0 x1 r S' h)
noncomputable def cX13_coin_21 (n : Nat) (S : rvS) (a0 : Nat) : Option (Int32 × rvS) :=
  (rv_ck S 11 a0).bind fun u1_ =>
  rv_bp (fnX13_refuse n S a0) fun x4_ S5_ =>
  some (x4_, S5_)
set_option maxRecDepth 20000 in
set_option maxHeartbeats 4000000 in
theorem eX13_coin_21 (n : Nat) (S : rvS) (a0 : Nat) (r : Int32) (S' : rvS) (h : cX13_coin_21 n S a0 = some (r, S')) : rv_Ev mX13_coin 5 21 [(0, .ref a0)] [] S (some (.int r)) S' := by
  unfold cX13_coin_21 at h
  refine re_aloadn (pc := 21) 0 (by decide +kernel : decode cX13_coin 21 = .ok (.aload_n 0, 1)) rfl ?_
  obtain ⟨u1_, g2_, h⟩ := rv_b_e h
  obtain ⟨x4_, S5_, g6_, h⟩ := rv_bp_e h
  have m3_ := metX13_refuse n S a0 _ _ g6_
  have z7_ : rv_same S S5_ := m3_.sh rfl
  refine re_cV (pc := 22) [] m3_ (rv_okl.k z7_) (rv_up.sh z7_) (by decide) (rv_ck_e g2_) ⟨by decide, rfl⟩ (Nat.le_of_ble_eq_true rfl) lVX13_268 rfl (by decide +kernel : decode cX13_coin 22 = .ok (.invokevirtual 268, 3)) ?_
  cases h
  exact re_iret (fun ty hty => by cases hty; rfl) (by decide +kernel : decode cX13_coin 25 = .ok (.ireturn, 1))
noncomputable def fnX13_coin (n : Nat) (S : rvS) (a0 : Nat) (x1 : Int32) (x2 : Int32) : Option (Int32 × rvS) :=
  (rv_ck S 11 a0).bind fun u1_ =>
  (fnX13_lay n S a0).bind fun S4_ =>
  (rv_ck S4_ 11 a0).bind fun u7_ =>
  (fnX13_isCoin n S4_ a0 x1).bind fun x10_ =>
  if x10_ = 0 then (
    cX13_coin_21 n S4_ a0)
  else (
    (fnX13_isIn n S4_ x2 (0 : Int32) (4 : Int32)).bind fun x14_ =>
    if x14_ = 0 then (
      cX13_coin_21 n S4_ a0)
    else (
      (rv_pI S4_ 11 a0 0 (0 : Int32)).bind fun S17_ =>
      if (3 : Int32) ≤ x2 then (
        if x2 = (3 : Int32) then (
          (rv_ck S17_ 11 a0).bind fun u26_ =>
          rv_bp (fnX13_whomOf n S17_ a0 x1) fun x29_ S30_ =>
          (fnX13_bits n S30_ x29_).bind fun x34_ =>
          some (x34_, S30_))
        else (
          (rv_ck S17_ 11 a0).bind fun u21_ =>
          (fnX13_forgedOf n S17_ a0 x1).bind fun x24_ =>
          some (x24_, S17_)))
      else (
        (rv_ck S17_ 11 a0).bind fun u36_ =>
        (fnX13_ofCoin n S17_ a0 x1 x2).bind fun x39_ =>
        some (x39_, S17_))))
set_option maxRecDepth 20000 in
set_option maxHeartbeats 4000000 in
theorem eX13_coin_in (n : Nat) (S : rvS) (a0 : Nat) (x1 : Int32) (x2 : Int32) (r : Int32) (S' : rvS) (h : fnX13_coin n S a0 x1 x2 = some (r, S')) : rv_Ev mX13_coin 5 0 [(0, .ref a0), (1, .int x1), (2, .int x2)] [] S (some (.int r)) S' := by
  unfold fnX13_coin at h
  refine re_aloadn (pc := 0) 0 (by decide +kernel : decode cX13_coin 0 = .ok (.aload_n 0, 1)) rfl ?_
  obtain ⟨u1_, g2_, h⟩ := rv_b_e h
  obtain ⟨S4_, g5_, h⟩ := rv_b_e h
  have m3_ := metX13_lay n S a0 _ g5_
  have z6_ : rv_same S S4_ := m3_.sh rfl
  refine re_cV (pc := 1) [] m3_ (rv_okl.k z6_) (rv_up.sh z6_) (by decide) (rv_ck_e g2_) ⟨by decide, rfl⟩ (Nat.le_of_ble_eq_true rfl) lVX13_187 rfl (by decide +kernel : decode cX13_coin 1 = .ok (.invokevirtual 187, 3)) ?_
  refine re_aloadn (pc := 4) 0 (by decide +kernel : decode cX13_coin 4 = .ok (.aload_n 0, 1)) rfl ?_
  refine re_iloadn (pc := 5) 1 (by decide +kernel : decode cX13_coin 5 = .ok (.iload_n 1, 1)) rfl ?_
  obtain ⟨u7_, g8_, h⟩ := rv_b_e h
  obtain ⟨x10_, g11_, h⟩ := rv_b_e h
  have m9_ := metX13_isCoin n S4_ a0 x1 _ g11_
  refine re_cV (pc := 6) [.int x1] m9_ (rv_okl.k ⟨rfl, rfl⟩) (rv_up.rf _ _) (by decide) (rv_ck_e g8_) ⟨by decide, rfl⟩ (Nat.le_of_ble_eq_true rfl) lVX13_277 rfl (by decide +kernel : decode cX13_coin 6 = .ok (.invokevirtual 277, 3)) ?_
  rcases rv_if_e h with ⟨g12_, h⟩ | ⟨g12_, h⟩
  · refine re_if_eq_t (pc := 9) 21 (by decide +kernel : decode cX13_coin 9 = .ok (.ifCond .eq 12, 3)) (by decide) g12_ ?_
    refine re_sub [0] (lv1 := [(0, .ref a0)]) rfl ?_
    exact eX13_coin_21 n S4_ a0 _ _ h
  · refine re_if_eq_f (pc := 9) 21 (by decide +kernel : decode cX13_coin 9 = .ok (.ifCond .eq 12, 3)) (by decide) g12_ ?_
    refine re_iloadn (pc := 12) 2 (by decide +kernel : decode cX13_coin 12 = .ok (.iload_n 2, 1)) rfl ?_
    refine re_iconst (pc := 13) (0 : Int32) (by decide +kernel : decode cX13_coin 13 = .ok (.iconst 0, 1)) (by decide) ?_
    refine re_iconst (pc := 14) (4 : Int32) (by decide +kernel : decode cX13_coin 14 = .ok (.iconst 4, 1)) (by decide) ?_
    obtain ⟨x14_, g15_, h⟩ := rv_b_e h
    have m13_ := metX13_isIn n S4_ x2 (0 : Int32) (4 : Int32) _ g15_
    refine re_cS (pc := 15) [.int x2, .int (0 : Int32), .int (4 : Int32)] m13_ (rv_okl.k ⟨rfl, rfl⟩) (rv_up.rf _ _) (by decide) (Nat.le_of_ble_eq_true rfl) lSX13_170 rfl (by decide +kernel : decode cX13_coin 15 = .ok (.invokestatic 170, 3)) ?_
    rcases rv_if_e h with ⟨g16_, h⟩ | ⟨g16_, h⟩
    · refine re_if_ne_f (pc := 18) 26 (by decide +kernel : decode cX13_coin 18 = .ok (.ifCond .ne 8, 3)) (by decide) g16_ ?_
      refine re_sub [0] (lv1 := [(0, .ref a0)]) rfl ?_
      exact eX13_coin_21 n S4_ a0 _ _ h
    · refine re_if_ne_t (pc := 18) 26 (by decide +kernel : decode cX13_coin 18 = .ok (.ifCond .ne 8, 3)) (by decide) g16_ ?_
      refine re_aloadn (pc := 26) 0 (by decide +kernel : decode cX13_coin 26 = .ok (.aload_n 0, 1)) rfl ?_
      refine re_iconst (pc := 27) (0 : Int32) (by decide +kernel : decode cX13_coin 27 = .ok (.iconst 0, 1)) (by decide) ?_
      obtain ⟨S17_, g18_, h⟩ := rv_b_e h
      refine re_pI (pc := 28) g18_ lfX13_99 rfl rfl rfl rfl (by decide +kernel : decode cX13_coin 28 = .ok (.putfield 99, 3)) ?_
      refine re_iloadn (pc := 31) 2 (by decide +kernel : decode cX13_coin 31 = .ok (.iload_n 2, 1)) rfl ?_
      refine re_iconst (pc := 32) (3 : Int32) (by decide +kernel : decode cX13_coin 32 = .ok (.iconst 3, 1)) (by decide) ?_
      rcases rv_if_e h with ⟨g19_, h⟩ | ⟨g19_, h⟩
      · refine re_icmp_ge_t (pc := 33) 45 (by decide +kernel : decode cX13_coin 33 = .ok (.if_icmp .ge 12, 3)) (by decide) g19_ ?_
        refine re_iloadn (pc := 45) 2 (by decide +kernel : decode cX13_coin 45 = .ok (.iload_n 2, 1)) rfl ?_
        refine re_iconst (pc := 46) (3 : Int32) (by decide +kernel : decode cX13_coin 46 = .ok (.iconst 3, 1)) (by decide) ?_
        rcases rv_if_e h with ⟨g20_, h⟩ | ⟨g20_, h⟩
        · refine re_icmp_ne_f (pc := 47) 61 (by decide +kernel : decode cX13_coin 47 = .ok (.if_icmp .ne 14, 3)) (by decide) g20_ ?_
          refine re_aloadn (pc := 50) 0 (by decide +kernel : decode cX13_coin 50 = .ok (.aload_n 0, 1)) rfl ?_
          refine re_iloadn (pc := 51) 1 (by decide +kernel : decode cX13_coin 51 = .ok (.iload_n 1, 1)) rfl ?_
          obtain ⟨u26_, g27_, h⟩ := rv_b_e h
          obtain ⟨x29_, S30_, g31_, h⟩ := rv_bp_e h
          have m28_ := metX13_whomOf n S17_ a0 x1 _ _ g31_
          have z32_ : rv_same S17_ S30_ := m28_.sh rfl
          refine re_cV (pc := 52) [.int x1] m28_ (rv_okl.k z32_) (rv_up.sh z32_) (by decide) (rv_ck_e g27_) ⟨by decide, rfl⟩ (Nat.le_of_ble_eq_true rfl) lVX13_280 rfl (by decide +kernel : decode cX13_coin 52 = .ok (.invokevirtual 280, 3)) ?_
          obtain ⟨x34_, g35_, h⟩ := rv_b_e h
          have m33_ := metX13_bits n S30_ x29_ _ g35_
          refine re_cS (pc := 55) [.int x29_] m33_ (rv_okl.k ⟨rfl, rfl⟩) (rv_up.rf _ _) (by decide) (Nat.le_of_ble_eq_true rfl) lSX13_283 rfl (by decide +kernel : decode cX13_coin 55 = .ok (.invokestatic 283, 3)) ?_
          refine re_goto (pc := 58) 66 (by decide +kernel : decode cX13_coin 58 = .ok (.goto 8, 3)) (by decide) ?_
          cases h
          exact re_iret (fun ty hty => by cases hty; rfl) (by decide +kernel : decode cX13_coin 66 = .ok (.ireturn, 1))
        · refine re_icmp_ne_t (pc := 47) 61 (by decide +kernel : decode cX13_coin 47 = .ok (.if_icmp .ne 14, 3)) (by decide) g20_ ?_
          refine re_aloadn (pc := 61) 0 (by decide +kernel : decode cX13_coin 61 = .ok (.aload_n 0, 1)) rfl ?_
          refine re_iloadn (pc := 62) 1 (by decide +kernel : decode cX13_coin 62 = .ok (.iload_n 1, 1)) rfl ?_
          obtain ⟨u21_, g22_, h⟩ := rv_b_e h
          obtain ⟨x24_, g25_, h⟩ := rv_b_e h
          have m23_ := metX13_forgedOf n S17_ a0 x1 _ g25_
          refine re_cV (pc := 63) [.int x1] m23_ (rv_okl.k ⟨rfl, rfl⟩) (rv_up.rf _ _) (by decide) (rv_ck_e g22_) ⟨by decide, rfl⟩ (Nat.le_of_ble_eq_true rfl) lVX13_286 rfl (by decide +kernel : decode cX13_coin 63 = .ok (.invokevirtual 286, 3)) ?_
          cases h
          exact re_iret (fun ty hty => by cases hty; rfl) (by decide +kernel : decode cX13_coin 66 = .ok (.ireturn, 1))
      · refine re_icmp_ge_f (pc := 33) 45 (by decide +kernel : decode cX13_coin 33 = .ok (.if_icmp .ge 12, 3)) (by decide) g19_ ?_
        refine re_aloadn (pc := 36) 0 (by decide +kernel : decode cX13_coin 36 = .ok (.aload_n 0, 1)) rfl ?_
        refine re_iloadn (pc := 37) 1 (by decide +kernel : decode cX13_coin 37 = .ok (.iload_n 1, 1)) rfl ?_
        refine re_iloadn (pc := 38) 2 (by decide +kernel : decode cX13_coin 38 = .ok (.iload_n 2, 1)) rfl ?_
        obtain ⟨u36_, g37_, h⟩ := rv_b_e h
        obtain ⟨x39_, g40_, h⟩ := rv_b_e h
        have m38_ := metX13_ofCoin n S17_ a0 x1 x2 _ g40_
        refine re_cV (pc := 39) [.int x1, .int x2] m38_ (rv_okl.k ⟨rfl, rfl⟩) (rv_up.rf _ _) (by decide) (rv_ck_e g37_) ⟨by decide, rfl⟩ (Nat.le_of_ble_eq_true rfl) lVX13_271 rfl (by decide +kernel : decode cX13_coin 39 = .ok (.invokevirtual 271, 3)) ?_
        refine re_goto (pc := 42) 66 (by decide +kernel : decode cX13_coin 42 = .ok (.goto 24, 3)) (by decide) ?_
        cases h
        exact re_iret (fun ty hty => by cases hty; rfl) (by decide +kernel : decode cX13_coin 66 = .ok (.ireturn, 1))
theorem metX13_coin (n : Nat) (S : rvS) (a0 : Nat) (x1 : Int32) (x2 : Int32) (r : Int32) (S' : rvS) (h : fnX13_coin n S a0 x1 x2 = some (r, S')) : rv_Met yX13_coin mX13_coin 5 [.ref a0, .int x1, .int x2] S (some (.int r)) S' := rv_Met.of ⟨by decide +kernel, rfl, (fun z => by first | rfl | cases z), rfl⟩ (Nat.le_of_ble_eq_true rfl) rfl (eX13_coin_in n S a0 x1 x2 r S' h)
noncomputable def fnX13_rim (n : Nat) (S : rvS) (a0 : Nat) (x1 : Int32) (x2 : Int32) : Option (Int32 × rvS) :=
  (rv_pI S 11 a0 0 (0 : Int32)).bind fun S1_ =>
  (rv_ck S1_ 11 a0).bind fun u3_ =>
  (fnX13_lay n S1_ a0).bind fun S6_ =>
  (rv_ck S6_ 11 a0).bind fun u9_ =>
  (fnX13_isCoin n S6_ a0 x1).bind fun x12_ =>
  if x12_ = 0 then (
    some ((-1 : Int32), S6_))
  else (
    if x2 < 0 then (
      some ((-1 : Int32), S6_))
    else (
      (rv_ck S6_ 11 a0).bind fun u16_ =>
      (fnX13_ofCoin n S6_ a0 x1 (2 : Int32)).bind fun x19_ =>
      if x19_ ≤ x2 then (
        some ((-1 : Int32), S6_))
      else (
        (rv_ck S6_ 11 a0).bind fun u22_ =>
        (fnX13_ofCoin n S6_ a0 x1 ((3 : Int32) + x2)).bind fun x25_ =>
        some (x25_, S6_))))
set_option maxRecDepth 20000 in
set_option maxHeartbeats 4000000 in
theorem eX13_rim_in (n : Nat) (S : rvS) (a0 : Nat) (x1 : Int32) (x2 : Int32) (r : Int32) (S' : rvS) (h : fnX13_rim n S a0 x1 x2 = some (r, S')) : rv_Ev mX13_rim 2 0 [(0, .ref a0), (1, .int x1), (2, .int x2)] [] S (some (.int r)) S' := by
  unfold fnX13_rim at h
  refine re_aloadn (pc := 0) 0 (by decide +kernel : decode cX13_rim 0 = .ok (.aload_n 0, 1)) rfl ?_
  refine re_iconst (pc := 1) (0 : Int32) (by decide +kernel : decode cX13_rim 1 = .ok (.iconst 0, 1)) (by decide) ?_
  obtain ⟨S1_, g2_, h⟩ := rv_b_e h
  refine re_pI (pc := 2) g2_ lfX13_99 rfl rfl rfl rfl (by decide +kernel : decode cX13_rim 2 = .ok (.putfield 99, 3)) ?_
  refine re_aloadn (pc := 5) 0 (by decide +kernel : decode cX13_rim 5 = .ok (.aload_n 0, 1)) rfl ?_
  obtain ⟨u3_, g4_, h⟩ := rv_b_e h
  obtain ⟨S6_, g7_, h⟩ := rv_b_e h
  have m5_ := metX13_lay n S1_ a0 _ g7_
  have z8_ : rv_same S1_ S6_ := m5_.sh rfl
  refine re_cV (pc := 6) [] m5_ (rv_okl.k z8_) (rv_up.sh z8_) (by decide) (rv_ck_e g4_) ⟨by decide, rfl⟩ (Nat.le_of_ble_eq_true rfl) lVX13_187 rfl (by decide +kernel : decode cX13_rim 6 = .ok (.invokevirtual 187, 3)) ?_
  refine re_aloadn (pc := 9) 0 (by decide +kernel : decode cX13_rim 9 = .ok (.aload_n 0, 1)) rfl ?_
  refine re_iloadn (pc := 10) 1 (by decide +kernel : decode cX13_rim 10 = .ok (.iload_n 1, 1)) rfl ?_
  obtain ⟨u9_, g10_, h⟩ := rv_b_e h
  obtain ⟨x12_, g13_, h⟩ := rv_b_e h
  have m11_ := metX13_isCoin n S6_ a0 x1 _ g13_
  refine re_cV (pc := 11) [.int x1] m11_ (rv_okl.k ⟨rfl, rfl⟩) (rv_up.rf _ _) (by decide) (rv_ck_e g10_) ⟨by decide, rfl⟩ (Nat.le_of_ble_eq_true rfl) lVX13_277 rfl (by decide +kernel : decode cX13_rim 11 = .ok (.invokevirtual 277, 3)) ?_
  rcases rv_if_e h with ⟨g14_, h⟩ | ⟨g14_, h⟩
  · refine re_if_eq_t (pc := 14) 42 (by decide +kernel : decode cX13_rim 14 = .ok (.ifCond .eq 28, 3)) (by decide) g14_ ?_
    refine re_iconst (pc := 42) (-1 : Int32) (by decide +kernel : decode cX13_rim 42 = .ok (.iconst (-1), 1)) (by decide) ?_
    cases h
    exact re_iret (fun ty hty => by cases hty; rfl) (by decide +kernel : decode cX13_rim 43 = .ok (.ireturn, 1))
  · refine re_if_eq_f (pc := 14) 42 (by decide +kernel : decode cX13_rim 14 = .ok (.ifCond .eq 28, 3)) (by decide) g14_ ?_
    refine re_iloadn (pc := 17) 2 (by decide +kernel : decode cX13_rim 17 = .ok (.iload_n 2, 1)) rfl ?_
    rcases rv_if_e h with ⟨g15_, h⟩ | ⟨g15_, h⟩
    · refine re_if_lt_t (pc := 18) 42 (by decide +kernel : decode cX13_rim 18 = .ok (.ifCond .lt 24, 3)) (by decide) g15_ ?_
      refine re_iconst (pc := 42) (-1 : Int32) (by decide +kernel : decode cX13_rim 42 = .ok (.iconst (-1), 1)) (by decide) ?_
      cases h
      exact re_iret (fun ty hty => by cases hty; rfl) (by decide +kernel : decode cX13_rim 43 = .ok (.ireturn, 1))
    · refine re_if_lt_f (pc := 18) 42 (by decide +kernel : decode cX13_rim 18 = .ok (.ifCond .lt 24, 3)) (by decide) g15_ ?_
      refine re_iloadn (pc := 21) 2 (by decide +kernel : decode cX13_rim 21 = .ok (.iload_n 2, 1)) rfl ?_
      refine re_aloadn (pc := 22) 0 (by decide +kernel : decode cX13_rim 22 = .ok (.aload_n 0, 1)) rfl ?_
      refine re_iloadn (pc := 23) 1 (by decide +kernel : decode cX13_rim 23 = .ok (.iload_n 1, 1)) rfl ?_
      refine re_iconst (pc := 24) (2 : Int32) (by decide +kernel : decode cX13_rim 24 = .ok (.iconst 2, 1)) (by decide) ?_
      obtain ⟨u16_, g17_, h⟩ := rv_b_e h
      obtain ⟨x19_, g20_, h⟩ := rv_b_e h
      have m18_ := metX13_ofCoin n S6_ a0 x1 (2 : Int32) _ g20_
      refine re_cV (pc := 25) [.int x1, .int (2 : Int32)] m18_ (rv_okl.k ⟨rfl, rfl⟩) (rv_up.rf _ _) (by decide) (rv_ck_e g17_) ⟨by decide, rfl⟩ (Nat.le_of_ble_eq_true rfl) lVX13_271 rfl (by decide +kernel : decode cX13_rim 25 = .ok (.invokevirtual 271, 3)) ?_
      rcases rv_if_e h with ⟨g21_, h⟩ | ⟨g21_, h⟩
      · refine re_icmp_ge_t (pc := 28) 42 (by decide +kernel : decode cX13_rim 28 = .ok (.if_icmp .ge 14, 3)) (by decide) g21_ ?_
        refine re_iconst (pc := 42) (-1 : Int32) (by decide +kernel : decode cX13_rim 42 = .ok (.iconst (-1), 1)) (by decide) ?_
        cases h
        exact re_iret (fun ty hty => by cases hty; rfl) (by decide +kernel : decode cX13_rim 43 = .ok (.ireturn, 1))
      · refine re_icmp_ge_f (pc := 28) 42 (by decide +kernel : decode cX13_rim 28 = .ok (.if_icmp .ge 14, 3)) (by decide) g21_ ?_
        refine re_aloadn (pc := 31) 0 (by decide +kernel : decode cX13_rim 31 = .ok (.aload_n 0, 1)) rfl ?_
        refine re_iloadn (pc := 32) 1 (by decide +kernel : decode cX13_rim 32 = .ok (.iload_n 1, 1)) rfl ?_
        refine re_iconst (pc := 33) (3 : Int32) (by decide +kernel : decode cX13_rim 33 = .ok (.iconst 3, 1)) (by decide) ?_
        refine re_iloadn (pc := 34) 2 (by decide +kernel : decode cX13_rim 34 = .ok (.iload_n 2, 1)) rfl ?_
        refine re_iadd (pc := 35) (by decide +kernel : decode cX13_rim 35 = .ok (.iadd, 1)) ?_
        obtain ⟨u22_, g23_, h⟩ := rv_b_e h
        obtain ⟨x25_, g26_, h⟩ := rv_b_e h
        have m24_ := metX13_ofCoin n S6_ a0 x1 ((3 : Int32) + x2) _ g26_
        refine re_cV (pc := 36) [.int x1, .int ((3 : Int32) + x2)] m24_ (rv_okl.k ⟨rfl, rfl⟩) (rv_up.rf _ _) (by decide) (rv_ck_e g23_) ⟨by decide, rfl⟩ (Nat.le_of_ble_eq_true rfl) lVX13_271 rfl (by decide +kernel : decode cX13_rim 36 = .ok (.invokevirtual 271, 3)) ?_
        refine re_goto (pc := 39) 43 (by decide +kernel : decode cX13_rim 39 = .ok (.goto 4, 3)) (by decide) ?_
        cases h
        exact re_iret (fun ty hty => by cases hty; rfl) (by decide +kernel : decode cX13_rim 43 = .ok (.ireturn, 1))
theorem metX13_rim (n : Nat) (S : rvS) (a0 : Nat) (x1 : Int32) (x2 : Int32) (r : Int32) (S' : rvS) (h : fnX13_rim n S a0 x1 x2 = some (r, S')) : rv_Met yX13_rim mX13_rim 2 [.ref a0, .int x1, .int x2] S (some (.int r)) S' := rv_Met.of ⟨by decide +kernel, rfl, (fun z => by first | rfl | cases z), rfl⟩ (Nat.le_of_ble_eq_true rfl) rfl (eX13_rim_in n S a0 x1 x2 r S' h)
noncomputable def fnX13_near (n : Nat) (S : rvS) (a0 : Nat) (x1 : Int32) (x2 : Int32) : Option (Int32 × rvS) :=
  (rv_pI S 11 a0 0 (0 : Int32)).bind fun S1_ =>
  (rv_ck S1_ 11 a0).bind fun u3_ =>
  (fnX13_lay n S1_ a0).bind fun S6_ =>
  (fnX13_isVillage n S6_ x1).bind fun x10_ =>
  if x10_ = 0 then (
    some ((-1 : Int32), S6_))
  else (
    (fnX13_isVillage n S6_ x2).bind fun x14_ =>
    if x14_ = 0 then (
      some ((-1 : Int32), S6_))
    else (
      (rv_ck S6_ 11 a0).bind fun u17_ =>
      (fnX13_areNear n S6_ a0 x1 x2).bind fun x20_ =>
      if x20_ = 0 then (
        some ((0 : Int32), S6_))
      else (
        some ((1 : Int32), S6_))))
set_option maxRecDepth 20000 in
set_option maxHeartbeats 4000000 in
theorem eX13_near_in (n : Nat) (S : rvS) (a0 : Nat) (x1 : Int32) (x2 : Int32) (r : Int32) (S' : rvS) (h : fnX13_near n S a0 x1 x2 = some (r, S')) : rv_Ev mX13_near 2 0 [(0, .ref a0), (1, .int x1), (2, .int x2)] [] S (some (.int r)) S' := by
  unfold fnX13_near at h
  refine re_aloadn (pc := 0) 0 (by decide +kernel : decode cX13_near 0 = .ok (.aload_n 0, 1)) rfl ?_
  refine re_iconst (pc := 1) (0 : Int32) (by decide +kernel : decode cX13_near 1 = .ok (.iconst 0, 1)) (by decide) ?_
  obtain ⟨S1_, g2_, h⟩ := rv_b_e h
  refine re_pI (pc := 2) g2_ lfX13_99 rfl rfl rfl rfl (by decide +kernel : decode cX13_near 2 = .ok (.putfield 99, 3)) ?_
  refine re_aloadn (pc := 5) 0 (by decide +kernel : decode cX13_near 5 = .ok (.aload_n 0, 1)) rfl ?_
  obtain ⟨u3_, g4_, h⟩ := rv_b_e h
  obtain ⟨S6_, g7_, h⟩ := rv_b_e h
  have m5_ := metX13_lay n S1_ a0 _ g7_
  have z8_ : rv_same S1_ S6_ := m5_.sh rfl
  refine re_cV (pc := 6) [] m5_ (rv_okl.k z8_) (rv_up.sh z8_) (by decide) (rv_ck_e g4_) ⟨by decide, rfl⟩ (Nat.le_of_ble_eq_true rfl) lVX13_187 rfl (by decide +kernel : decode cX13_near 6 = .ok (.invokevirtual 187, 3)) ?_
  refine re_iloadn (pc := 9) 1 (by decide +kernel : decode cX13_near 9 = .ok (.iload_n 1, 1)) rfl ?_
  obtain ⟨x10_, g11_, h⟩ := rv_b_e h
  have m9_ := metX13_isVillage n S6_ x1 _ g11_
  refine re_cS (pc := 10) [.int x1] m9_ (rv_okl.k ⟨rfl, rfl⟩) (rv_up.rf _ _) (by decide) (Nat.le_of_ble_eq_true rfl) lSX13_289 rfl (by decide +kernel : decode cX13_near 10 = .ok (.invokestatic 289, 3)) ?_
  rcases rv_if_e h with ⟨g12_, h⟩ | ⟨g12_, h⟩
  · refine re_if_eq_t (pc := 13) 40 (by decide +kernel : decode cX13_near 13 = .ok (.ifCond .eq 27, 3)) (by decide) g12_ ?_
    refine re_iconst (pc := 40) (-1 : Int32) (by decide +kernel : decode cX13_near 40 = .ok (.iconst (-1), 1)) (by decide) ?_
    cases h
    exact re_iret (fun ty hty => by cases hty; rfl) (by decide +kernel : decode cX13_near 41 = .ok (.ireturn, 1))
  · refine re_if_eq_f (pc := 13) 40 (by decide +kernel : decode cX13_near 13 = .ok (.ifCond .eq 27, 3)) (by decide) g12_ ?_
    refine re_iloadn (pc := 16) 2 (by decide +kernel : decode cX13_near 16 = .ok (.iload_n 2, 1)) rfl ?_
    obtain ⟨x14_, g15_, h⟩ := rv_b_e h
    have m13_ := metX13_isVillage n S6_ x2 _ g15_
    refine re_cS (pc := 17) [.int x2] m13_ (rv_okl.k ⟨rfl, rfl⟩) (rv_up.rf _ _) (by decide) (Nat.le_of_ble_eq_true rfl) lSX13_289 rfl (by decide +kernel : decode cX13_near 17 = .ok (.invokestatic 289, 3)) ?_
    rcases rv_if_e h with ⟨g16_, h⟩ | ⟨g16_, h⟩
    · refine re_if_eq_t (pc := 20) 40 (by decide +kernel : decode cX13_near 20 = .ok (.ifCond .eq 20, 3)) (by decide) g16_ ?_
      refine re_iconst (pc := 40) (-1 : Int32) (by decide +kernel : decode cX13_near 40 = .ok (.iconst (-1), 1)) (by decide) ?_
      cases h
      exact re_iret (fun ty hty => by cases hty; rfl) (by decide +kernel : decode cX13_near 41 = .ok (.ireturn, 1))
    · refine re_if_eq_f (pc := 20) 40 (by decide +kernel : decode cX13_near 20 = .ok (.ifCond .eq 20, 3)) (by decide) g16_ ?_
      refine re_aloadn (pc := 23) 0 (by decide +kernel : decode cX13_near 23 = .ok (.aload_n 0, 1)) rfl ?_
      refine re_iloadn (pc := 24) 1 (by decide +kernel : decode cX13_near 24 = .ok (.iload_n 1, 1)) rfl ?_
      refine re_iloadn (pc := 25) 2 (by decide +kernel : decode cX13_near 25 = .ok (.iload_n 2, 1)) rfl ?_
      obtain ⟨u17_, g18_, h⟩ := rv_b_e h
      obtain ⟨x20_, g21_, h⟩ := rv_b_e h
      have m19_ := metX13_areNear n S6_ a0 x1 x2 _ g21_
      refine re_cV (pc := 26) [.int x1, .int x2] m19_ (rv_okl.k ⟨rfl, rfl⟩) (rv_up.rf _ _) (by decide) (rv_ck_e g18_) ⟨by decide, rfl⟩ (Nat.le_of_ble_eq_true rfl) lVX13_274 rfl (by decide +kernel : decode cX13_near 26 = .ok (.invokevirtual 274, 3)) ?_
      rcases rv_if_e h with ⟨g22_, h⟩ | ⟨g22_, h⟩
      · refine re_if_eq_t (pc := 29) 36 (by decide +kernel : decode cX13_near 29 = .ok (.ifCond .eq 7, 3)) (by decide) g22_ ?_
        refine re_iconst (pc := 36) (0 : Int32) (by decide +kernel : decode cX13_near 36 = .ok (.iconst 0, 1)) (by decide) ?_
        refine re_goto (pc := 37) 41 (by decide +kernel : decode cX13_near 37 = .ok (.goto 4, 3)) (by decide) ?_
        cases h
        exact re_iret (fun ty hty => by cases hty; rfl) (by decide +kernel : decode cX13_near 41 = .ok (.ireturn, 1))
      · refine re_if_eq_f (pc := 29) 36 (by decide +kernel : decode cX13_near 29 = .ok (.ifCond .eq 7, 3)) (by decide) g22_ ?_
        refine re_iconst (pc := 32) (1 : Int32) (by decide +kernel : decode cX13_near 32 = .ok (.iconst 1, 1)) (by decide) ?_
        refine re_goto (pc := 33) 41 (by decide +kernel : decode cX13_near 33 = .ok (.goto 8, 3)) (by decide) ?_
        cases h
        exact re_iret (fun ty hty => by cases hty; rfl) (by decide +kernel : decode cX13_near 41 = .ok (.ireturn, 1))
theorem metX13_near (n : Nat) (S : rvS) (a0 : Nat) (x1 : Int32) (x2 : Int32) (r : Int32) (S' : rvS) (h : fnX13_near n S a0 x1 x2 = some (r, S')) : rv_Met yX13_near mX13_near 2 [.ref a0, .int x1, .int x2] S (some (.int r)) S' := rv_Met.of ⟨by decide +kernel, rfl, (fun z => by first | rfl | cases z), rfl⟩ (Nat.le_of_ble_eq_true rfl) rfl (eX13_near_in n S a0 x1 x2 r S' h)
noncomputable def fnX13_road (n : Nat) (S : rvS) (a0 : Nat) (x1 : Int32) (x2 : Int32) : Option (Int32 × rvS) :=
  (rv_pI S 11 a0 0 (0 : Int32)).bind fun S1_ =>
  (rv_ck S1_ 11 a0).bind fun u3_ =>
  (fnX13_lay n S1_ a0).bind fun S6_ =>
  (fnX13_isVillage n S6_ x1).bind fun x10_ =>
  if x10_ = 0 then (
    some ((0 : Int32), S6_))
  else (
    (fnX13_isVillage n S6_ x2).bind fun x14_ =>
    if x14_ = 0 then (
      some ((0 : Int32), S6_))
    else (
      (rv_ck S6_ 11 a0).bind fun u17_ =>
      (fnX13_areNear n S6_ a0 x1 x2).bind fun x20_ =>
      if x20_ = 0 then (
        (rv_gR S6_ 11 a0 14).bind fun a23_ =>
        rv_lt ((128 : Int32) + x1) fun x25_ =>
        (rv_aI S6_ 0 a23_ x25_).bind fun x27_ =>
        (rv_uI S6_ a23_ x25_ (x27_ ||| ((1 : Int32) <<< (x2 &&& 31)))).bind fun S29_ =>
        (rv_gR S29_ 11 a0 14).bind fun a31_ =>
        rv_lt ((128 : Int32) + x2) fun x33_ =>
        (rv_aI S29_ 0 a31_ x33_).bind fun x35_ =>
        (rv_uI S29_ a31_ x33_ (x35_ ||| ((1 : Int32) <<< (x1 &&& 31)))).bind fun S37_ =>
        some ((1 : Int32), S37_))
      else (
        some ((0 : Int32), S6_))))
set_option maxRecDepth 20000 in
set_option maxHeartbeats 4000000 in
theorem eX13_road_in (n : Nat) (S : rvS) (a0 : Nat) (x1 : Int32) (x2 : Int32) (r : Int32) (S' : rvS) (h : fnX13_road n S a0 x1 x2 = some (r, S')) : rv_Ev mX13_road 2 0 [(0, .ref a0), (1, .int x1), (2, .int x2)] [] S (some (.int r)) S' := by
  unfold fnX13_road at h
  refine re_aloadn (pc := 0) 0 (by decide +kernel : decode cX13_road 0 = .ok (.aload_n 0, 1)) rfl ?_
  refine re_iconst (pc := 1) (0 : Int32) (by decide +kernel : decode cX13_road 1 = .ok (.iconst 0, 1)) (by decide) ?_
  obtain ⟨S1_, g2_, h⟩ := rv_b_e h
  refine re_pI (pc := 2) g2_ lfX13_99 rfl rfl rfl rfl (by decide +kernel : decode cX13_road 2 = .ok (.putfield 99, 3)) ?_
  refine re_aloadn (pc := 5) 0 (by decide +kernel : decode cX13_road 5 = .ok (.aload_n 0, 1)) rfl ?_
  obtain ⟨u3_, g4_, h⟩ := rv_b_e h
  obtain ⟨S6_, g7_, h⟩ := rv_b_e h
  have m5_ := metX13_lay n S1_ a0 _ g7_
  have z8_ : rv_same S1_ S6_ := m5_.sh rfl
  refine re_cV (pc := 6) [] m5_ (rv_okl.k z8_) (rv_up.sh z8_) (by decide) (rv_ck_e g4_) ⟨by decide, rfl⟩ (Nat.le_of_ble_eq_true rfl) lVX13_187 rfl (by decide +kernel : decode cX13_road 6 = .ok (.invokevirtual 187, 3)) ?_
  refine re_iloadn (pc := 9) 1 (by decide +kernel : decode cX13_road 9 = .ok (.iload_n 1, 1)) rfl ?_
  obtain ⟨x10_, g11_, h⟩ := rv_b_e h
  have m9_ := metX13_isVillage n S6_ x1 _ g11_
  refine re_cS (pc := 10) [.int x1] m9_ (rv_okl.k ⟨rfl, rfl⟩) (rv_up.rf _ _) (by decide) (Nat.le_of_ble_eq_true rfl) lSX13_289 rfl (by decide +kernel : decode cX13_road 10 = .ok (.invokestatic 289, 3)) ?_
  rcases rv_if_e h with ⟨g12_, h⟩ | ⟨g12_, h⟩
  · refine re_if_eq_t (pc := 13) 32 (by decide +kernel : decode cX13_road 13 = .ok (.ifCond .eq 19, 3)) (by decide) g12_ ?_
    refine re_iconst (pc := 32) (0 : Int32) (by decide +kernel : decode cX13_road 32 = .ok (.iconst 0, 1)) (by decide) ?_
    cases h
    exact re_iret (fun ty hty => by cases hty; rfl) (by decide +kernel : decode cX13_road 33 = .ok (.ireturn, 1))
  · refine re_if_eq_f (pc := 13) 32 (by decide +kernel : decode cX13_road 13 = .ok (.ifCond .eq 19, 3)) (by decide) g12_ ?_
    refine re_iloadn (pc := 16) 2 (by decide +kernel : decode cX13_road 16 = .ok (.iload_n 2, 1)) rfl ?_
    obtain ⟨x14_, g15_, h⟩ := rv_b_e h
    have m13_ := metX13_isVillage n S6_ x2 _ g15_
    refine re_cS (pc := 17) [.int x2] m13_ (rv_okl.k ⟨rfl, rfl⟩) (rv_up.rf _ _) (by decide) (Nat.le_of_ble_eq_true rfl) lSX13_289 rfl (by decide +kernel : decode cX13_road 17 = .ok (.invokestatic 289, 3)) ?_
    rcases rv_if_e h with ⟨g16_, h⟩ | ⟨g16_, h⟩
    · refine re_if_eq_t (pc := 20) 32 (by decide +kernel : decode cX13_road 20 = .ok (.ifCond .eq 12, 3)) (by decide) g16_ ?_
      refine re_iconst (pc := 32) (0 : Int32) (by decide +kernel : decode cX13_road 32 = .ok (.iconst 0, 1)) (by decide) ?_
      cases h
      exact re_iret (fun ty hty => by cases hty; rfl) (by decide +kernel : decode cX13_road 33 = .ok (.ireturn, 1))
    · refine re_if_eq_f (pc := 20) 32 (by decide +kernel : decode cX13_road 20 = .ok (.ifCond .eq 12, 3)) (by decide) g16_ ?_
      refine re_aloadn (pc := 23) 0 (by decide +kernel : decode cX13_road 23 = .ok (.aload_n 0, 1)) rfl ?_
      refine re_iloadn (pc := 24) 1 (by decide +kernel : decode cX13_road 24 = .ok (.iload_n 1, 1)) rfl ?_
      refine re_iloadn (pc := 25) 2 (by decide +kernel : decode cX13_road 25 = .ok (.iload_n 2, 1)) rfl ?_
      obtain ⟨u17_, g18_, h⟩ := rv_b_e h
      obtain ⟨x20_, g21_, h⟩ := rv_b_e h
      have m19_ := metX13_areNear n S6_ a0 x1 x2 _ g21_
      refine re_cV (pc := 26) [.int x1, .int x2] m19_ (rv_okl.k ⟨rfl, rfl⟩) (rv_up.rf _ _) (by decide) (rv_ck_e g18_) ⟨by decide, rfl⟩ (Nat.le_of_ble_eq_true rfl) lVX13_274 rfl (by decide +kernel : decode cX13_road 26 = .ok (.invokevirtual 274, 3)) ?_
      rcases rv_if_e h with ⟨g22_, h⟩ | ⟨g22_, h⟩
      · refine re_if_eq_t (pc := 29) 34 (by decide +kernel : decode cX13_road 29 = .ok (.ifCond .eq 5, 3)) (by decide) g22_ ?_
        refine re_aloadn (pc := 34) 0 (by decide +kernel : decode cX13_road 34 = .ok (.aload_n 0, 1)) rfl ?_
        obtain ⟨a23_, g24_, h⟩ := rv_b_e h
        refine re_gR (pc := 35) g24_ lfX13_13 rfl (by decide +kernel : decode cX13_road 35 = .ok (.getfield 13, 3)) ?_
        refine re_sipush (pc := 38) (128 : Int32) (by decide +kernel : decode cX13_road 38 = .ok (.sipush 128, 3)) (by decide) ?_
        refine re_iloadn (pc := 41) 1 (by decide +kernel : decode cX13_road 41 = .ok (.iload_n 1, 1)) rfl ?_
        refine re_iadd (pc := 42) (by decide +kernel : decode cX13_road 42 = .ok (.iadd, 1)) ?_
        obtain ⟨x25_, g26_, h⟩ := rv_lt_e h
        refine re_nI (pc := 43) g26_ ?_
        refine re_dup2 (pc := 43) (by decide +kernel : decode cX13_road 43 = .ok (.dup2, 1)) rfl rfl ?_
        obtain ⟨x27_, g28_, h⟩ := rv_b_e h
        refine re_aI (pc := 44) g28_ (by decide +kernel : decode cX13_road 44 = .ok (.iaload, 1)) ?_
        refine re_iconst (pc := 45) (1 : Int32) (by decide +kernel : decode cX13_road 45 = .ok (.iconst 1, 1)) (by decide) ?_
        refine re_iloadn (pc := 46) 2 (by decide +kernel : decode cX13_road 46 = .ok (.iload_n 2, 1)) rfl ?_
        refine re_ishl (pc := 47) (by decide +kernel : decode cX13_road 47 = .ok (.ishl, 1)) ?_
        refine re_ior (pc := 48) (by decide +kernel : decode cX13_road 48 = .ok (.ior, 1)) ?_
        obtain ⟨S29_, g30_, h⟩ := rv_b_e h
        refine re_uI (pc := 49) g30_ (by decide +kernel : decode cX13_road 49 = .ok (.iastore, 1)) ?_
        refine re_aloadn (pc := 50) 0 (by decide +kernel : decode cX13_road 50 = .ok (.aload_n 0, 1)) rfl ?_
        obtain ⟨a31_, g32_, h⟩ := rv_b_e h
        refine re_gR (pc := 51) g32_ lfX13_13 rfl (by decide +kernel : decode cX13_road 51 = .ok (.getfield 13, 3)) ?_
        refine re_sipush (pc := 54) (128 : Int32) (by decide +kernel : decode cX13_road 54 = .ok (.sipush 128, 3)) (by decide) ?_
        refine re_iloadn (pc := 57) 2 (by decide +kernel : decode cX13_road 57 = .ok (.iload_n 2, 1)) rfl ?_
        refine re_iadd (pc := 58) (by decide +kernel : decode cX13_road 58 = .ok (.iadd, 1)) ?_
        obtain ⟨x33_, g34_, h⟩ := rv_lt_e h
        refine re_nI (pc := 59) g34_ ?_
        refine re_dup2 (pc := 59) (by decide +kernel : decode cX13_road 59 = .ok (.dup2, 1)) rfl rfl ?_
        obtain ⟨x35_, g36_, h⟩ := rv_b_e h
        refine re_aI (pc := 60) g36_ (by decide +kernel : decode cX13_road 60 = .ok (.iaload, 1)) ?_
        refine re_iconst (pc := 61) (1 : Int32) (by decide +kernel : decode cX13_road 61 = .ok (.iconst 1, 1)) (by decide) ?_
        refine re_iloadn (pc := 62) 1 (by decide +kernel : decode cX13_road 62 = .ok (.iload_n 1, 1)) rfl ?_
        refine re_ishl (pc := 63) (by decide +kernel : decode cX13_road 63 = .ok (.ishl, 1)) ?_
        refine re_ior (pc := 64) (by decide +kernel : decode cX13_road 64 = .ok (.ior, 1)) ?_
        obtain ⟨S37_, g38_, h⟩ := rv_b_e h
        refine re_uI (pc := 65) g38_ (by decide +kernel : decode cX13_road 65 = .ok (.iastore, 1)) ?_
        refine re_iconst (pc := 66) (1 : Int32) (by decide +kernel : decode cX13_road 66 = .ok (.iconst 1, 1)) (by decide) ?_
        cases h
        exact re_iret (fun ty hty => by cases hty; rfl) (by decide +kernel : decode cX13_road 67 = .ok (.ireturn, 1))
      · refine re_if_eq_f (pc := 29) 34 (by decide +kernel : decode cX13_road 29 = .ok (.ifCond .eq 5, 3)) (by decide) g22_ ?_
        refine re_iconst (pc := 32) (0 : Int32) (by decide +kernel : decode cX13_road 32 = .ok (.iconst 0, 1)) (by decide) ?_
        cases h
        exact re_iret (fun ty hty => by cases hty; rfl) (by decide +kernel : decode cX13_road 33 = .ok (.ireturn, 1))
theorem metX13_road (n : Nat) (S : rvS) (a0 : Nat) (x1 : Int32) (x2 : Int32) (r : Int32) (S' : rvS) (h : fnX13_road n S a0 x1 x2 = some (r, S')) : rv_Met yX13_road mX13_road 2 [.ref a0, .int x1, .int x2] S (some (.int r)) S' := rv_Met.of ⟨by decide +kernel, rfl, (fun z => by first | rfl | cases z), rfl⟩ (Nat.le_of_ble_eq_true rfl) rfl (eX13_road_in n S a0 x1 x2 r S' h)
