noncomputable def cX5_choose_80 (n : Nat) (S : rvS) (a0 : Nat) (x5 : Int32) : Option (Int32 × rvS) :=
  (rv_gR S 4 a0 0).bind fun a1_ =>
  (rv_aL S a1_ x5).bind fun x3_ =>
  (rv_ck S 4 a0).bind fun u5_ =>
  rv_bp (fnX5_take n S a0 x3_) fun x8_ S9_ =>
  some (x8_, S9_)
set_option maxRecDepth 20000 in
set_option maxHeartbeats 4000000 in
theorem eX5_choose_80 (n : Nat) (S : rvS) (a0 : Nat) (x5 : Int32) (r : Int32) (S' : rvS) (h : cX5_choose_80 n S a0 x5 = some (r, S')) : rv_Ev mX5_choose 3 80 [(0, .ref a0), (5, .int x5)] [] S (some (.int r)) S' := by
  unfold cX5_choose_80 at h
  refine re_aloadn (pc := 80) 0 (by decide +kernel : decode cX5_choose 80 = .ok (.aload_n 0, 1)) rfl ?_
  refine re_aloadn (pc := 81) 0 (by decide +kernel : decode cX5_choose 81 = .ok (.aload_n 0, 1)) rfl ?_
  obtain ⟨a1_, g2_, h⟩ := rv_b_e h
  refine re_gR (pc := 82) g2_ lfX5_11 rfl (by decide +kernel : decode cX5_choose 82 = .ok (.getfield 11, 3)) ?_
  refine re_iload (pc := 85) 1 (by decide +kernel : decode cX5_choose 85 = .ok (.iload 5, 2)) rfl ?_
  obtain ⟨x3_, g4_, h⟩ := rv_b_e h
  refine re_aL (pc := 87) g4_ (by decide +kernel : decode cX5_choose 87 = .ok (.laload, 1)) ?_
  obtain ⟨u5_, g6_, h⟩ := rv_b_e h
  obtain ⟨x8_, S9_, g10_, h⟩ := rv_bp_e h
  have m7_ := metX5_take n S a0 x3_ _ _ g10_
  have z11_ : rv_same S S9_ := m7_.sh rfl
  refine re_cV (pc := 88) [.long x3_] m7_ (rv_okl.k z11_) (rv_up.sh z11_) (by decide) (rv_ck_e g6_) ⟨by decide, rfl⟩ (Nat.le_of_ble_eq_true rfl) lVX5_40 rfl (by decide +kernel : decode cX5_choose 88 = .ok (.invokevirtual 40, 3)) ?_
  cases h
  exact re_iret (fun ty hty => by cases hty; rfl) (by decide +kernel : decode cX5_choose 91 = .ok (.ireturn, 1))
noncomputable def cX5_choose_38 (n : Nat) : Nat → rvS → Nat → Nat → Int32 → Int64 → Int32 → Option (Int32 × rvS)
  | 0, _, _, _, _, _, _ => none
  | k + 1, S, a0, a2, x5, x6, x8 =>
    (rv_gI S 5 a2 0).bind fun x1_ =>
    if x1_ ≤ x8 then (
      cX5_choose_80 n S a0 x5)
    else (
      if (lg_cmp (((x6.toUInt64 >>> (x8.toInt64.toUInt64 &&& Int64.toUInt64 63)).toInt64) &&& (1 : Int64)) (0 : Int64)) = 0 then (
        rv_lt (x8 + (1)) fun x5_ =>
        cX5_choose_38 n k S a0 a2 x5 x6 x5_)
      else (
        (rv_gR S 5 a2 2).bind fun a7_ =>
        (rv_aI S 0 a7_ x8).bind fun x9_ =>
        (rv_ck S 4 a0).bind fun u11_ =>
        (fnX5_addCoin n S a0 x8 x9_ x5).bind fun S14_ =>
        rv_lt (x8 + (1)) fun x17_ =>
        cX5_choose_38 n k S14_ a0 a2 x5 x6 x17_))
set_option maxRecDepth 20000 in
set_option maxHeartbeats 4000000 in
theorem eX5_choose_38 (n : Nat) : ∀ (k : Nat) (S : rvS) (a0 : Nat) (a2 : Nat) (x5 : Int32) (x6 : Int64) (x8 : Int32) (r : Int32) (S' : rvS), cX5_choose_38 n k S a0 a2 x5 x6 x8 = some (r, S') → rv_Ev mX5_choose 3 38 [(0, .ref a0), (2, .ref a2), (5, .int x5), (6, .long x6), (8, .int x8)] [] S (some (.int r)) S' := by
  intro k
  induction k with
  | zero => intro S a0 a2 x5 x6 x8 r S' h; exact absurd h (by simp [cX5_choose_38])
  | succ k ih =>
    intro S a0 a2 x5 x6 x8 r S' h
    unfold cX5_choose_38 at h
    refine re_iload (pc := 38) 4 (by decide +kernel : decode cX5_choose 38 = .ok (.iload 8, 2)) rfl ?_
    refine re_aloadn (pc := 40) 1 (by decide +kernel : decode cX5_choose 40 = .ok (.aload_n 2, 1)) rfl ?_
    obtain ⟨x1_, g2_, h⟩ := rv_b_e h
    refine re_gI (pc := 41) g2_ lfX5_28 rfl (by decide +kernel : decode cX5_choose 41 = .ok (.getfield 28, 3)) ?_
    rcases rv_if_e h with ⟨g3_, h⟩ | ⟨g3_, h⟩
    · refine re_icmp_ge_t (pc := 44) 80 (by decide +kernel : decode cX5_choose 44 = .ok (.if_icmp .ge 36, 3)) (by decide) g3_ ?_
      refine re_sub [0, 2] (lv1 := [(0, .ref a0), (5, .int x5)]) rfl ?_
      exact eX5_choose_80 n S a0 x5 _ _ h
    · refine re_icmp_ge_f (pc := 44) 80 (by decide +kernel : decode cX5_choose 44 = .ok (.if_icmp .ge 36, 3)) (by decide) g3_ ?_
      refine re_lload (pc := 47) 3 (by decide +kernel : decode cX5_choose 47 = .ok (.lload 6, 2)) rfl ?_
      refine re_iload (pc := 49) 4 (by decide +kernel : decode cX5_choose 49 = .ok (.iload 8, 2)) rfl ?_
      refine re_lushr (pc := 51) (by decide +kernel : decode cX5_choose 51 = .ok (.lushr, 1)) ?_
      refine re_lconst (pc := 52) (1 : Int64) (by decide +kernel : decode cX5_choose 52 = .ok (.lconst 1, 1)) (by decide) ?_
      refine re_land (pc := 53) (by decide +kernel : decode cX5_choose 53 = .ok (.land, 1)) ?_
      refine re_lconst (pc := 54) (0 : Int64) (by decide +kernel : decode cX5_choose 54 = .ok (.lconst 0, 1)) (by decide) ?_
      refine re_lcmp (pc := 55) (by decide +kernel : decode cX5_choose 55 = .ok (.lcmp, 1)) ?_
      rcases rv_if_e h with ⟨g4_, h⟩ | ⟨g4_, h⟩
      · refine re_if_eq_t (pc := 56) 74 (by decide +kernel : decode cX5_choose 56 = .ok (.ifCond .eq 18, 3)) (by decide) g4_ ?_
        obtain ⟨x5_, g6_, h⟩ := rv_lt_e h
        refine re_iinc (pc := 74) 4 x5_ (lv1 := [(8, .int x5_), (0, .ref a0), (2, .ref a2), (5, .int x5), (6, .long x6)]) (by decide +kernel : decode cX5_choose 74 = .ok (.iinc 8 1, 3)) rfl g6_ (by decide) rfl ?_
        refine re_goto (pc := 77) 38 (by decide +kernel : decode cX5_choose 77 = .ok (.goto (-39), 3)) (by decide) ?_
        refine re_sub [1, 2, 3, 4, 0] (lv1 := [(0, .ref a0), (2, .ref a2), (5, .int x5), (6, .long x6), (8, .int x5_)]) rfl ?_
        exact ih S a0 a2 x5 x6 x5_ _ _ h
      · refine re_if_eq_f (pc := 56) 74 (by decide +kernel : decode cX5_choose 56 = .ok (.ifCond .eq 18, 3)) (by decide) g4_ ?_
        refine re_aloadn (pc := 59) 0 (by decide +kernel : decode cX5_choose 59 = .ok (.aload_n 0, 1)) rfl ?_
        refine re_iload (pc := 60) 4 (by decide +kernel : decode cX5_choose 60 = .ok (.iload 8, 2)) rfl ?_
        refine re_aloadn (pc := 62) 1 (by decide +kernel : decode cX5_choose 62 = .ok (.aload_n 2, 1)) rfl ?_
        obtain ⟨a7_, g8_, h⟩ := rv_b_e h
        refine re_gR (pc := 63) g8_ lfX5_32 rfl (by decide +kernel : decode cX5_choose 63 = .ok (.getfield 32, 3)) ?_
        refine re_iload (pc := 66) 4 (by decide +kernel : decode cX5_choose 66 = .ok (.iload 8, 2)) rfl ?_
        obtain ⟨x9_, g10_, h⟩ := rv_b_e h
        refine re_aI (pc := 68) g10_ (by decide +kernel : decode cX5_choose 68 = .ok (.iaload, 1)) ?_
        refine re_iload (pc := 69) 2 (by decide +kernel : decode cX5_choose 69 = .ok (.iload 5, 2)) rfl ?_
        obtain ⟨u11_, g12_, h⟩ := rv_b_e h
        obtain ⟨S14_, g15_, h⟩ := rv_b_e h
        have m13_ := metX5_addCoin n S a0 x8 x9_ x5 _ g15_
        have z16_ : rv_same S S14_ := m13_.sh rfl
        refine re_cV (pc := 71) [.int x8, .int x9_, .int x5] m13_ (rv_okl.k z16_) (rv_up.sh z16_) (by decide) (rv_ck_e g12_) ⟨by decide, rfl⟩ (Nat.le_of_ble_eq_true rfl) lVX5_36 rfl (by decide +kernel : decode cX5_choose 71 = .ok (.invokevirtual 36, 3)) ?_
        obtain ⟨x17_, g18_, h⟩ := rv_lt_e h
        refine re_iinc (pc := 74) 4 x17_ (lv1 := [(8, .int x17_), (0, .ref a0), (2, .ref a2), (5, .int x5), (6, .long x6)]) (by decide +kernel : decode cX5_choose 74 = .ok (.iinc 8 1, 3)) rfl g18_ (by decide) rfl ?_
        refine re_goto (pc := 77) 38 (by decide +kernel : decode cX5_choose 77 = .ok (.goto (-39), 3)) (by decide) ?_
        refine re_sub [1, 2, 3, 4, 0] (lv1 := [(0, .ref a0), (2, .ref a2), (5, .int x5), (6, .long x6), (8, .int x17_)]) rfl ?_
        exact ih S14_ a0 a2 x5 x6 x17_ _ _ h
noncomputable def fnX5_choose (n : Nat) (S : rvS) (a0 : Nat) (a1 : Nat) (a2 : Nat) (x3 : Int32) (x4 : Int32) (x5 : Int32) : Option (Int32 × rvS) :=
  if x5 < (1 : Int32) then (
    some ((-1 : Int32), S))
  else (
    if x5 ≤ (999 : Int32) then (
      (rv_ck S 5 a2).bind fun u3_ =>
      (fnX6_goingTo n S a2 a1 x3 x4).bind fun x6_ =>
      (rv_gR S 4 a0 0).bind fun a8_ =>
      (fnX5_startAt n S a8_ x5).bind fun S11_ =>
      cX5_choose_38 n n S11_ a0 a2 x5 x6_ (0 : Int32))
    else (
      some ((-1 : Int32), S)))
set_option maxRecDepth 20000 in
set_option maxHeartbeats 4000000 in
theorem eX5_choose_in (n : Nat) (S : rvS) (a0 : Nat) (a1 : Nat) (a2 : Nat) (x3 : Int32) (x4 : Int32) (x5 : Int32) (r : Int32) (S' : rvS) (h : fnX5_choose n S a0 a1 a2 x3 x4 x5 = some (r, S')) : rv_Ev mX5_choose 3 0 [(0, .ref a0), (1, .ref a1), (2, .ref a2), (3, .int x3), (4, .int x4), (5, .int x5)] [] S (some (.int r)) S' := by
  unfold fnX5_choose at h
  refine re_iload (pc := 0) 5 (by decide +kernel : decode cX5_choose 0 = .ok (.iload 5, 2)) rfl ?_
  refine re_iconst (pc := 2) (1 : Int32) (by decide +kernel : decode cX5_choose 2 = .ok (.iconst 1, 1)) (by decide) ?_
  rcases rv_if_e h with ⟨g1_, h⟩ | ⟨g1_, h⟩
  · refine re_icmp_lt_t (pc := 3) 14 (by decide +kernel : decode cX5_choose 3 = .ok (.if_icmp .lt 11, 3)) (by decide) g1_ ?_
    refine re_iconst (pc := 14) (-1 : Int32) (by decide +kernel : decode cX5_choose 14 = .ok (.iconst (-1), 1)) (by decide) ?_
    cases h
    exact re_iret (fun ty hty => by cases hty; rfl) (by decide +kernel : decode cX5_choose 15 = .ok (.ireturn, 1))
  · refine re_icmp_lt_f (pc := 3) 14 (by decide +kernel : decode cX5_choose 3 = .ok (.if_icmp .lt 11, 3)) (by decide) g1_ ?_
    refine re_iload (pc := 6) 5 (by decide +kernel : decode cX5_choose 6 = .ok (.iload 5, 2)) rfl ?_
    refine re_sipush (pc := 8) (999 : Int32) (by decide +kernel : decode cX5_choose 8 = .ok (.sipush 999, 3)) (by decide) ?_
    rcases rv_if_e h with ⟨g2_, h⟩ | ⟨g2_, h⟩
    · refine re_icmp_le_t (pc := 11) 16 (by decide +kernel : decode cX5_choose 11 = .ok (.if_icmp .le 5, 3)) (by decide) g2_ ?_
      refine re_aloadn (pc := 16) 2 (by decide +kernel : decode cX5_choose 16 = .ok (.aload_n 2, 1)) rfl ?_
      refine re_aloadn (pc := 17) 1 (by decide +kernel : decode cX5_choose 17 = .ok (.aload_n 1, 1)) rfl ?_
      refine re_iloadn (pc := 18) 3 (by decide +kernel : decode cX5_choose 18 = .ok (.iload_n 3, 1)) rfl ?_
      refine re_iload (pc := 19) 4 (by decide +kernel : decode cX5_choose 19 = .ok (.iload 4, 2)) rfl ?_
      obtain ⟨u3_, g4_, h⟩ := rv_b_e h
      obtain ⟨x6_, g7_, h⟩ := rv_b_e h
      have m5_ := metX6_goingTo n S a2 a1 x3 x4 _ g7_
      refine re_cV (pc := 21) [.ref a1, .int x3, .int x4] m5_ (rv_okl.k ⟨rfl, rfl⟩) (rv_up.rf _ _) (by decide) (rv_ck_e g4_) ⟨by decide, rfl⟩ (Nat.le_of_ble_eq_true rfl) lVX5_20 rfl (by decide +kernel : decode cX5_choose 21 = .ok (.invokevirtual 20, 3)) ?_
      refine re_lstore (pc := 24) (lv1 := [(6, .long x6_), (0, .ref a0), (1, .ref a1), (2, .ref a2), (3, .int x3), (4, .int x4), (5, .int x5)]) (by decide +kernel : decode cX5_choose 24 = .ok (.lstore 6, 2)) (by decide) rfl ?_
      refine re_aloadn (pc := 26) 1 (by decide +kernel : decode cX5_choose 26 = .ok (.aload_n 0, 1)) rfl ?_
      obtain ⟨a8_, g9_, h⟩ := rv_b_e h
      refine re_gR (pc := 27) g9_ lfX5_11 rfl (by decide +kernel : decode cX5_choose 27 = .ok (.getfield 11, 3)) ?_
      refine re_iload (pc := 30) 6 (by decide +kernel : decode cX5_choose 30 = .ok (.iload 5, 2)) rfl ?_
      obtain ⟨S11_, g12_, h⟩ := rv_b_e h
      have m10_ := metX5_startAt n S a8_ x5 _ g12_
      have z13_ : rv_same S S11_ := m10_.sh rfl
      refine re_cS (pc := 32) [.ref a8_, .int x5] m10_ (rv_okl.k z13_) (rv_up.sh z13_) (by decide) (Nat.le_of_ble_eq_true rfl) lSX5_24 rfl (by decide +kernel : decode cX5_choose 32 = .ok (.invokestatic 24, 3)) ?_
      refine re_iconst (pc := 35) (0 : Int32) (by decide +kernel : decode cX5_choose 35 = .ok (.iconst 0, 1)) (by decide) ?_
      refine re_istore (pc := 36) (lv1 := [(8, .int (0 : Int32)), (6, .long x6_), (0, .ref a0), (1, .ref a1), (2, .ref a2), (3, .int x3), (4, .int x4), (5, .int x5)]) (by decide +kernel : decode cX5_choose 36 = .ok (.istore 8, 2)) (by decide) rfl ?_
      refine re_sub [2, 4, 7, 1, 0] (lv1 := [(0, .ref a0), (2, .ref a2), (5, .int x5), (6, .long x6_), (8, .int (0 : Int32))]) rfl ?_
      exact eX5_choose_38 n n S11_ a0 a2 x5 x6_ (0 : Int32) _ _ h
    · refine re_icmp_le_f (pc := 11) 16 (by decide +kernel : decode cX5_choose 11 = .ok (.if_icmp .le 5, 3)) (by decide) g2_ ?_
      refine re_iconst (pc := 14) (-1 : Int32) (by decide +kernel : decode cX5_choose 14 = .ok (.iconst (-1), 1)) (by decide) ?_
      cases h
      exact re_iret (fun ty hty => by cases hty; rfl) (by decide +kernel : decode cX5_choose 15 = .ok (.ireturn, 1))
theorem metX5_choose (n : Nat) (S : rvS) (a0 : Nat) (a1 : Nat) (a2 : Nat) (x3 : Int32) (x4 : Int32) (x5 : Int32) (r : Int32) (S' : rvS) (h : fnX5_choose n S a0 a1 a2 x3 x4 x5 = some (r, S')) : rv_Met yX5_choose mX5_choose 3 [.ref a0, .ref a1, .ref a2, .int x3, .int x4, .int x5] S (some (.int r)) S' := rv_Met.of ⟨by decide +kernel, rfl, (fun z => by first | rfl | cases z), rfl⟩ (Nat.le_of_ble_eq_true rfl) rfl (eX5_choose_in n S a0 a1 a2 x3 x4 x5 r S' h)
noncomputable def cX6_moveAll_3 (n : Nat) : Nat → rvS → Nat → Int64 → Int32 → Int32 → Option rvS
  | 0, _, _, _, _, _ => none
  | k + 1, S, a0, x1, x3, x4 =>
    (rv_gI S 5 a0 0).bind fun x1_ =>
    if x1_ ≤ x4 then (
      some S)
    else (
      if (lg_cmp (((x1.toUInt64 >>> (x4.toInt64.toUInt64 &&& Int64.toUInt64 63)).toInt64) &&& (1 : Int64)) (0 : Int64)) = 0 then (
        rv_lt (x4 + (1)) fun x5_ =>
        cX6_moveAll_3 n k S a0 x1 x3 x5_)
      else (
        (rv_ck S 5 a0).bind fun u7_ =>
        (fnX6_move n S a0 x4 x3).bind fun S10_ =>
        rv_lt (x4 + (1)) fun x13_ =>
        cX6_moveAll_3 n k S10_ a0 x1 x3 x13_))
set_option maxRecDepth 20000 in
set_option maxHeartbeats 4000000 in
theorem eX6_moveAll_3 (n : Nat) : ∀ (k : Nat) (S : rvS) (a0 : Nat) (x1 : Int64) (x3 : Int32) (x4 : Int32) (S' : rvS), cX6_moveAll_3 n k S a0 x1 x3 x4 = some S' → rv_Ev mX6_moveAll 2 3 [(0, .ref a0), (1, .long x1), (3, .int x3), (4, .int x4)] [] S none S' := by
  intro k
  induction k with
  | zero => intro S a0 x1 x3 x4 S' h; exact absurd h (by simp [cX6_moveAll_3])
  | succ k ih =>
    intro S a0 x1 x3 x4 S' h
    unfold cX6_moveAll_3 at h
    refine re_iload (pc := 3) 3 (by decide +kernel : decode cX6_moveAll 3 = .ok (.iload 4, 2)) rfl ?_
    refine re_aloadn (pc := 5) 0 (by decide +kernel : decode cX6_moveAll 5 = .ok (.aload_n 0, 1)) rfl ?_
    obtain ⟨x1_, g2_, h⟩ := rv_b_e h
    refine re_gI (pc := 6) g2_ lfX6_25 rfl (by decide +kernel : decode cX6_moveAll 6 = .ok (.getfield 25, 3)) ?_
    rcases rv_if_e h with ⟨g3_, h⟩ | ⟨g3_, h⟩
    · refine re_icmp_ge_t (pc := 9) 36 (by decide +kernel : decode cX6_moveAll 9 = .ok (.if_icmp .ge 27, 3)) (by decide) g3_ ?_
      cases h
      exact re_vret (by decide +kernel : decode cX6_moveAll 36 = .ok (.return_, 1))
    · refine re_icmp_ge_f (pc := 9) 36 (by decide +kernel : decode cX6_moveAll 9 = .ok (.if_icmp .ge 27, 3)) (by decide) g3_ ?_
      refine re_lloadn (pc := 12) 1 (by decide +kernel : decode cX6_moveAll 12 = .ok (.lload_n 1, 1)) rfl ?_
      refine re_iload (pc := 13) 3 (by decide +kernel : decode cX6_moveAll 13 = .ok (.iload 4, 2)) rfl ?_
      refine re_lushr (pc := 15) (by decide +kernel : decode cX6_moveAll 15 = .ok (.lushr, 1)) ?_
      refine re_lconst (pc := 16) (1 : Int64) (by decide +kernel : decode cX6_moveAll 16 = .ok (.lconst 1, 1)) (by decide) ?_
      refine re_land (pc := 17) (by decide +kernel : decode cX6_moveAll 17 = .ok (.land, 1)) ?_
      refine re_lconst (pc := 18) (0 : Int64) (by decide +kernel : decode cX6_moveAll 18 = .ok (.lconst 0, 1)) (by decide) ?_
      refine re_lcmp (pc := 19) (by decide +kernel : decode cX6_moveAll 19 = .ok (.lcmp, 1)) ?_
      rcases rv_if_e h with ⟨g4_, h⟩ | ⟨g4_, h⟩
      · refine re_if_eq_t (pc := 20) 30 (by decide +kernel : decode cX6_moveAll 20 = .ok (.ifCond .eq 10, 3)) (by decide) g4_ ?_
        obtain ⟨x5_, g6_, h⟩ := rv_lt_e h
        refine re_iinc (pc := 30) 3 x5_ (lv1 := [(4, .int x5_), (0, .ref a0), (1, .long x1), (3, .int x3)]) (by decide +kernel : decode cX6_moveAll 30 = .ok (.iinc 4 1, 3)) rfl g6_ (by decide) rfl ?_
        refine re_goto (pc := 33) 3 (by decide +kernel : decode cX6_moveAll 33 = .ok (.goto (-30), 3)) (by decide) ?_
        refine re_sub [1, 2, 3, 0] (lv1 := [(0, .ref a0), (1, .long x1), (3, .int x3), (4, .int x5_)]) rfl ?_
        exact ih S a0 x1 x3 x5_ _ h
      · refine re_if_eq_f (pc := 20) 30 (by decide +kernel : decode cX6_moveAll 20 = .ok (.ifCond .eq 10, 3)) (by decide) g4_ ?_
        refine re_aloadn (pc := 23) 0 (by decide +kernel : decode cX6_moveAll 23 = .ok (.aload_n 0, 1)) rfl ?_
        refine re_iload (pc := 24) 3 (by decide +kernel : decode cX6_moveAll 24 = .ok (.iload 4, 2)) rfl ?_
        refine re_iloadn (pc := 26) 2 (by decide +kernel : decode cX6_moveAll 26 = .ok (.iload_n 3, 1)) rfl ?_
        obtain ⟨u7_, g8_, h⟩ := rv_b_e h
        obtain ⟨S10_, g11_, h⟩ := rv_b_e h
        have m9_ := metX6_move n S a0 x4 x3 _ g11_
        have z12_ : rv_same S S10_ := m9_.sh rfl
        refine re_cV (pc := 27) [.int x4, .int x3] m9_ (rv_okl.k z12_) (rv_up.sh z12_) (by decide) (rv_ck_e g8_) ⟨by decide, rfl⟩ (Nat.le_of_ble_eq_true rfl) lVX6_42 rfl (by decide +kernel : decode cX6_moveAll 27 = .ok (.invokevirtual 42, 3)) ?_
        obtain ⟨x13_, g14_, h⟩ := rv_lt_e h
        refine re_iinc (pc := 30) 3 x13_ (lv1 := [(4, .int x13_), (0, .ref a0), (1, .long x1), (3, .int x3)]) (by decide +kernel : decode cX6_moveAll 30 = .ok (.iinc 4 1, 3)) rfl g14_ (by decide) rfl ?_
        refine re_goto (pc := 33) 3 (by decide +kernel : decode cX6_moveAll 33 = .ok (.goto (-30), 3)) (by decide) ?_
        refine re_sub [1, 2, 3, 0] (lv1 := [(0, .ref a0), (1, .long x1), (3, .int x3), (4, .int x13_)]) rfl ?_
        exact ih S10_ a0 x1 x3 x13_ _ h
noncomputable def fnX6_moveAll (n : Nat) (S : rvS) (a0 : Nat) (x1 : Int64) (x3 : Int32) : Option rvS :=
  cX6_moveAll_3 n n S a0 x1 x3 (0 : Int32)
set_option maxRecDepth 20000 in
set_option maxHeartbeats 4000000 in
theorem eX6_moveAll_in (n : Nat) (S : rvS) (a0 : Nat) (x1 : Int64) (x3 : Int32) (S' : rvS) (h : fnX6_moveAll n S a0 x1 x3 = some S') : rv_Ev mX6_moveAll 2 0 [(0, .ref a0), (1, .long x1), (3, .int x3)] [] S none S' := by
  unfold fnX6_moveAll at h
  refine re_iconst (pc := 0) (0 : Int32) (by decide +kernel : decode cX6_moveAll 0 = .ok (.iconst 0, 1)) (by decide) ?_
  refine re_istore (pc := 1) (lv1 := [(4, .int (0 : Int32)), (0, .ref a0), (1, .long x1), (3, .int x3)]) (by decide +kernel : decode cX6_moveAll 1 = .ok (.istore 4, 2)) (by decide) rfl ?_
  refine re_sub [1, 2, 3, 0] (lv1 := [(0, .ref a0), (1, .long x1), (3, .int x3), (4, .int (0 : Int32))]) rfl ?_
  exact eX6_moveAll_3 n n S a0 x1 x3 (0 : Int32) _ h
theorem metX6_moveAll (n : Nat) (S : rvS) (a0 : Nat) (x1 : Int64) (x3 : Int32) (S' : rvS) (h : fnX6_moveAll n S a0 x1 x3 = some S') : rv_Met yX6_moveAll mX6_moveAll 2 [.ref a0, .long x1, .int x3] S none S' := rv_Met.of ⟨by decide +kernel, rfl, (fun z => by first | rfl | cases z), rfl⟩ (Nat.le_of_ble_eq_true rfl) rfl (eX6_moveAll_in n S a0 x1 x3 S' h)
noncomputable def fnX5_payDebt (n : Nat) (S : rvS) (a0 : Nat) (a1 : Nat) (a2 : Nat) (x3 : Int32) : Option (Int32 × rvS) :=
  if x3 < 0 then (
    some ((-1 : Int32), S))
  else (
    (rv_gI S 8 a1 6).bind fun x2_ =>
    if x3 < x2_ then (
      (rv_gR S 8 a1 0).bind fun a5_ =>
      (rv_gR S 8 a1 3).bind fun a7_ =>
      (rv_aI S 0 a7_ x3).bind fun x9_ =>
      (rv_gR S 8 a1 4).bind fun a11_ =>
      (rv_aI S 0 a11_ x3).bind fun x13_ =>
      (rv_gR S 8 a1 5).bind fun a15_ =>
      (rv_aI S 0 a15_ x3).bind fun x17_ =>
      (rv_ck S 4 a0).bind fun u19_ =>
      rv_bp (fnX5_choose n S a0 a5_ a2 x9_ x13_ x17_) fun x22_ S23_ =>
      if x22_ < 0 then (
        some (x22_, S23_))
      else (
        (rv_gL S23_ 4 a0 2).bind fun x27_ =>
        (rv_gR S23_ 8 a1 4).bind fun a29_ =>
        (rv_aI S23_ 0 a29_ x3).bind fun x31_ =>
        (rv_ck S23_ 5 a2).bind fun u33_ =>
        (fnX6_moveAll n S23_ a2 x27_ x31_).bind fun S36_ =>
        some (x22_, S36_)))
    else (
      some ((-1 : Int32), S)))
set_option maxRecDepth 20000 in
set_option maxHeartbeats 4000000 in
theorem eX5_payDebt_in (n : Nat) (S : rvS) (a0 : Nat) (a1 : Nat) (a2 : Nat) (x3 : Int32) (r : Int32) (S' : rvS) (h : fnX5_payDebt n S a0 a1 a2 x3 = some (r, S')) : rv_Ev mX5_payDebt 4 0 [(0, .ref a0), (1, .ref a1), (2, .ref a2), (3, .int x3)] [] S (some (.int r)) S' := by
  unfold fnX5_payDebt at h
  refine re_iloadn (pc := 0) 3 (by decide +kernel : decode cX5_payDebt 0 = .ok (.iload_n 3, 1)) rfl ?_
  rcases rv_if_e h with ⟨g1_, h⟩ | ⟨g1_, h⟩
  · refine re_if_lt_t (pc := 1) 12 (by decide +kernel : decode cX5_payDebt 1 = .ok (.ifCond .lt 11, 3)) (by decide) g1_ ?_
    refine re_iconst (pc := 12) (-1 : Int32) (by decide +kernel : decode cX5_payDebt 12 = .ok (.iconst (-1), 1)) (by decide) ?_
    cases h
    exact re_iret (fun ty hty => by cases hty; rfl) (by decide +kernel : decode cX5_payDebt 13 = .ok (.ireturn, 1))
  · refine re_if_lt_f (pc := 1) 12 (by decide +kernel : decode cX5_payDebt 1 = .ok (.ifCond .lt 11, 3)) (by decide) g1_ ?_
    refine re_iloadn (pc := 4) 3 (by decide +kernel : decode cX5_payDebt 4 = .ok (.iload_n 3, 1)) rfl ?_
    refine re_aloadn (pc := 5) 1 (by decide +kernel : decode cX5_payDebt 5 = .ok (.aload_n 1, 1)) rfl ?_
    obtain ⟨x2_, g3_, h⟩ := rv_b_e h
    refine re_gI (pc := 6) g3_ lfX5_71 rfl (by decide +kernel : decode cX5_payDebt 6 = .ok (.getfield 71, 3)) ?_
    rcases rv_if_e h with ⟨g4_, h⟩ | ⟨g4_, h⟩
    · refine re_icmp_lt_t (pc := 9) 14 (by decide +kernel : decode cX5_payDebt 9 = .ok (.if_icmp .lt 5, 3)) (by decide) g4_ ?_
      refine re_aloadn (pc := 14) 0 (by decide +kernel : decode cX5_payDebt 14 = .ok (.aload_n 0, 1)) rfl ?_
      refine re_aloadn (pc := 15) 1 (by decide +kernel : decode cX5_payDebt 15 = .ok (.aload_n 1, 1)) rfl ?_
      obtain ⟨a5_, g6_, h⟩ := rv_b_e h
      refine re_gR (pc := 16) g6_ lfX5_76 rfl (by decide +kernel : decode cX5_payDebt 16 = .ok (.getfield 76, 3)) ?_
      refine re_aloadn (pc := 19) 2 (by decide +kernel : decode cX5_payDebt 19 = .ok (.aload_n 2, 1)) rfl ?_
      refine re_aloadn (pc := 20) 1 (by decide +kernel : decode cX5_payDebt 20 = .ok (.aload_n 1, 1)) rfl ?_
      obtain ⟨a7_, g8_, h⟩ := rv_b_e h
      refine re_gR (pc := 21) g8_ lfX5_80 rfl (by decide +kernel : decode cX5_payDebt 21 = .ok (.getfield 80, 3)) ?_
      refine re_iloadn (pc := 24) 3 (by decide +kernel : decode cX5_payDebt 24 = .ok (.iload_n 3, 1)) rfl ?_
      obtain ⟨x9_, g10_, h⟩ := rv_b_e h
      refine re_aI (pc := 25) g10_ (by decide +kernel : decode cX5_payDebt 25 = .ok (.iaload, 1)) ?_
      refine re_aloadn (pc := 26) 1 (by decide +kernel : decode cX5_payDebt 26 = .ok (.aload_n 1, 1)) rfl ?_
      obtain ⟨a11_, g12_, h⟩ := rv_b_e h
      refine re_gR (pc := 27) g12_ lfX5_83 rfl (by decide +kernel : decode cX5_payDebt 27 = .ok (.getfield 83, 3)) ?_
      refine re_iloadn (pc := 30) 3 (by decide +kernel : decode cX5_payDebt 30 = .ok (.iload_n 3, 1)) rfl ?_
      obtain ⟨x13_, g14_, h⟩ := rv_b_e h
      refine re_aI (pc := 31) g14_ (by decide +kernel : decode cX5_payDebt 31 = .ok (.iaload, 1)) ?_
      refine re_aloadn (pc := 32) 1 (by decide +kernel : decode cX5_payDebt 32 = .ok (.aload_n 1, 1)) rfl ?_
      obtain ⟨a15_, g16_, h⟩ := rv_b_e h
      refine re_gR (pc := 33) g16_ lfX5_86 rfl (by decide +kernel : decode cX5_payDebt 33 = .ok (.getfield 86, 3)) ?_
      refine re_iloadn (pc := 36) 3 (by decide +kernel : decode cX5_payDebt 36 = .ok (.iload_n 3, 1)) rfl ?_
      obtain ⟨x17_, g18_, h⟩ := rv_b_e h
      refine re_aI (pc := 37) g18_ (by decide +kernel : decode cX5_payDebt 37 = .ok (.iaload, 1)) ?_
      obtain ⟨u19_, g20_, h⟩ := rv_b_e h
      obtain ⟨x22_, S23_, g24_, h⟩ := rv_bp_e h
      have m21_ := metX5_choose n S a0 a5_ a2 x9_ x13_ x17_ _ _ g24_
      have z25_ : rv_same S S23_ := m21_.sh rfl
      refine re_cV (pc := 38) [.ref a5_, .ref a2, .int x9_, .int x13_, .int x17_] m21_ (rv_okl.k z25_) (rv_up.sh z25_) (by decide) (rv_ck_e g20_) ⟨by decide, rfl⟩ (Nat.le_of_ble_eq_true rfl) lVX5_89 rfl (by decide +kernel : decode cX5_payDebt 38 = .ok (.invokevirtual 89, 3)) ?_
      refine re_istore (pc := 41) (lv1 := [(4, .int x22_), (0, .ref a0), (1, .ref a1), (2, .ref a2), (3, .int x3)]) (by decide +kernel : decode cX5_payDebt 41 = .ok (.istore 4, 2)) (by decide) rfl ?_
      refine re_iload (pc := 43) 0 (by decide +kernel : decode cX5_payDebt 43 = .ok (.iload 4, 2)) rfl ?_
      rcases rv_if_e h with ⟨g26_, h⟩ | ⟨g26_, h⟩
      · refine re_if_lt_t (pc := 45) 62 (by decide +kernel : decode cX5_payDebt 45 = .ok (.ifCond .lt 17, 3)) (by decide) g26_ ?_
        refine re_iload (pc := 62) 0 (by decide +kernel : decode cX5_payDebt 62 = .ok (.iload 4, 2)) rfl ?_
        cases h
        exact re_iret (fun ty hty => by cases hty; rfl) (by decide +kernel : decode cX5_payDebt 64 = .ok (.ireturn, 1))
      · refine re_if_lt_f (pc := 45) 62 (by decide +kernel : decode cX5_payDebt 45 = .ok (.ifCond .lt 17, 3)) (by decide) g26_ ?_
        refine re_aloadn (pc := 48) 3 (by decide +kernel : decode cX5_payDebt 48 = .ok (.aload_n 2, 1)) rfl ?_
        refine re_aloadn (pc := 49) 1 (by decide +kernel : decode cX5_payDebt 49 = .ok (.aload_n 0, 1)) rfl ?_
        obtain ⟨x27_, g28_, h⟩ := rv_b_e h
        refine re_gL (pc := 50) g28_ lfX5_58 rfl (by decide +kernel : decode cX5_payDebt 50 = .ok (.getfield 58, 3)) ?_
        refine re_aloadn (pc := 53) 2 (by decide +kernel : decode cX5_payDebt 53 = .ok (.aload_n 1, 1)) rfl ?_
        obtain ⟨a29_, g30_, h⟩ := rv_b_e h
        refine re_gR (pc := 54) g30_ lfX5_83 rfl (by decide +kernel : decode cX5_payDebt 54 = .ok (.getfield 83, 3)) ?_
        refine re_iloadn (pc := 57) 4 (by decide +kernel : decode cX5_payDebt 57 = .ok (.iload_n 3, 1)) rfl ?_
        obtain ⟨x31_, g32_, h⟩ := rv_b_e h
        refine re_aI (pc := 58) g32_ (by decide +kernel : decode cX5_payDebt 58 = .ok (.iaload, 1)) ?_
        obtain ⟨u33_, g34_, h⟩ := rv_b_e h
        obtain ⟨S36_, g37_, h⟩ := rv_b_e h
        have m35_ := metX6_moveAll n S23_ a2 x27_ x31_ _ g37_
        have z38_ : rv_same S23_ S36_ := m35_.sh rfl
        refine re_cV (pc := 59) [.long x27_, .int x31_] m35_ (rv_okl.k z38_) (rv_up.sh z38_) (by decide) (rv_ck_e g34_) ⟨by decide, rfl⟩ (Nat.le_of_ble_eq_true rfl) lVX5_93 rfl (by decide +kernel : decode cX5_payDebt 59 = .ok (.invokevirtual 93, 3)) ?_
        refine re_iload (pc := 62) 0 (by decide +kernel : decode cX5_payDebt 62 = .ok (.iload 4, 2)) rfl ?_
        cases h
        exact re_iret (fun ty hty => by cases hty; rfl) (by decide +kernel : decode cX5_payDebt 64 = .ok (.ireturn, 1))
    · refine re_icmp_lt_f (pc := 9) 14 (by decide +kernel : decode cX5_payDebt 9 = .ok (.if_icmp .lt 5, 3)) (by decide) g4_ ?_
      refine re_iconst (pc := 12) (-1 : Int32) (by decide +kernel : decode cX5_payDebt 12 = .ok (.iconst (-1), 1)) (by decide) ?_
      cases h
      exact re_iret (fun ty hty => by cases hty; rfl) (by decide +kernel : decode cX5_payDebt 13 = .ok (.ireturn, 1))
theorem metX5_payDebt (n : Nat) (S : rvS) (a0 : Nat) (a1 : Nat) (a2 : Nat) (x3 : Int32) (r : Int32) (S' : rvS) (h : fnX5_payDebt n S a0 a1 a2 x3 = some (r, S')) : rv_Met yX5_payDebt mX5_payDebt 4 [.ref a0, .ref a1, .ref a2, .int x3] S (some (.int r)) S' := rv_Met.of ⟨by decide +kernel, rfl, (fun z => by first | rfl | cases z), rfl⟩ (Nat.le_of_ble_eq_true rfl) rfl (eX5_payDebt_in n S a0 a1 a2 x3 r S' h)
noncomputable def cX4_placeNext_58 (n : Nat) (G0 : rvS → Nat → Nat → Nat → Int32 → Int32 → Int32 → Option rvS) (G1 : rvS → Nat → Nat → Nat → Int32 → Int32 → Int32 → Option rvS) (S : rvS) (t0 : Nat) (t1 : Nat) (t2 : Nat) (t3 : Int32) (t4 : Int32) (t5 : Int32) : Option rvS :=
  (rv_ck S 3 t0).bind fun u1_ =>
  (G1 S t0 t1 t2 t3 t4 t5).bind fun S4_ =>
  some S4_
set_option maxRecDepth 20000 in
set_option maxHeartbeats 4000000 in
theorem eX4_placeNext_58 (n : Nat) (G0 : rvS → Nat → Nat → Nat → Int32 → Int32 → Int32 → Option rvS) (G1 : rvS → Nat → Nat → Nat → Int32 → Int32 → Int32 → Option rvS) (d : Nat) (hG0 : ∀ (S : rvS) (z0 : Nat) (z1 : Nat) (z2 : Nat) (z3 : Int32) (z4 : Int32) (z5 : Int32) (S' : rvS), G0 S z0 z1 z2 z3 z4 z5 = some S' → rv_Met yX4_placeNext mX4_placeNext (5 + d) [.ref z0, .ref z1, .ref z2, .int z3, .int z4, .int z5] S none S') (hG1 : ∀ (S : rvS) (z0 : Nat) (z1 : Nat) (z2 : Nat) (z3 : Int32) (z4 : Int32) (z5 : Int32) (S' : rvS), G1 S z0 z1 z2 z3 z4 z5 = some S' → rv_Met yX4_place mX4_place (5 + d) [.ref z0, .ref z1, .ref z2, .int z3, .int z4, .int z5] S none S') (S : rvS) (t0 : Nat) (t1 : Nat) (t2 : Nat) (t3 : Int32) (t4 : Int32) (t5 : Int32) (S' : rvS) (h : cX4_placeNext_58 n G0 G1 S t0 t1 t2 t3 t4 t5 = some S') : rv_Ev mX4_placeNext (5 + d + 1) 58 [] [.int t5, .int t4, .int t3, .ref t2, .ref t1, .ref t0] S none S' := by
  unfold cX4_placeNext_58 at h
  obtain ⟨u1_, g2_, h⟩ := rv_b_e h
  obtain ⟨S4_, g5_, h⟩ := rv_b_e h
  have m3_ := hG1 S t0 t1 t2 t3 t4 t5 _ g5_
  have z6_ : rv_same S S4_ := m3_.sh rfl
  refine re_cV (pc := 58) [.ref t1, .ref t2, .int t3, .int t4, .int t5] m3_ (rv_okl.k z6_) (rv_up.sh z6_) (by omega) (rv_ck_e g2_) ⟨by decide, rfl⟩ (Nat.le_of_ble_eq_true rfl) lVX4_64 rfl (by decide +kernel : decode cX4_placeNext 58 = .ok (.invokevirtual 64, 3)) ?_
  cases h
  exact re_vret (by decide +kernel : decode cX4_placeNext 61 = .ok (.return_, 1))
noncomputable def fbX4_placeNext (n : Nat) (G0 : rvS → Nat → Nat → Nat → Int32 → Int32 → Int32 → Option rvS) (G1 : rvS → Nat → Nat → Nat → Int32 → Int32 → Int32 → Option rvS) (S : rvS) (a0 : Nat) (a1 : Nat) (a2 : Nat) (x3 : Int32) (x4 : Int32) (x5 : Int32) : Option rvS :=
  (rv_gR S 3 a0 0).bind fun a1_ =>
  (rv_aR S 6 a1_ (x3 + (1 : Int32))).bind fun a3_ =>
  (rv_gR S 3 a0 0).bind fun a5_ =>
  (rv_aR S 6 a5_ x3).bind fun a7_ =>
  (rv_ck S 5 a3_).bind fun u9_ =>
  (fnX6_copyFrom n S a3_ a7_).bind fun S12_ =>
  (rv_gR S12_ 3 a0 2).bind fun a15_ =>
  (rv_aI S12_ 0 a15_ x3).bind fun x17_ =>
  (rv_ck S12_ 4 a2).bind fun u19_ =>
  rv_bp (fnX5_payDebt n S12_ a2 a1 a3_ x17_) fun x22_ S23_ =>
  if x22_ < 0 then (
    cX4_placeNext_58 n G0 G1 S23_ a0 a1 a2 (x3 + (1 : Int32)) x4 x5)
  else (
    cX4_placeNext_58 n G0 G1 S23_ a0 a1 a2 (x3 + (1 : Int32)) x4 (x5 + (1 : Int32)))
set_option maxRecDepth 20000 in
set_option maxHeartbeats 4000000 in
theorem eX4_placeNext_in (n : Nat) (G0 : rvS → Nat → Nat → Nat → Int32 → Int32 → Int32 → Option rvS) (G1 : rvS → Nat → Nat → Nat → Int32 → Int32 → Int32 → Option rvS) (d : Nat) (hG0 : ∀ (S : rvS) (z0 : Nat) (z1 : Nat) (z2 : Nat) (z3 : Int32) (z4 : Int32) (z5 : Int32) (S' : rvS), G0 S z0 z1 z2 z3 z4 z5 = some S' → rv_Met yX4_placeNext mX4_placeNext (5 + d) [.ref z0, .ref z1, .ref z2, .int z3, .int z4, .int z5] S none S') (hG1 : ∀ (S : rvS) (z0 : Nat) (z1 : Nat) (z2 : Nat) (z3 : Int32) (z4 : Int32) (z5 : Int32) (S' : rvS), G1 S z0 z1 z2 z3 z4 z5 = some S' → rv_Met yX4_place mX4_place (5 + d) [.ref z0, .ref z1, .ref z2, .int z3, .int z4, .int z5] S none S') (S : rvS) (a0 : Nat) (a1 : Nat) (a2 : Nat) (x3 : Int32) (x4 : Int32) (x5 : Int32) (S' : rvS) (h : fbX4_placeNext n G0 G1 S a0 a1 a2 x3 x4 x5 = some S') : rv_Ev mX4_placeNext (5 + d + 1) 0 [(0, .ref a0), (1, .ref a1), (2, .ref a2), (3, .int x3), (4, .int x4), (5, .int x5)] [] S none S' := by
  unfold fbX4_placeNext at h
  refine re_aloadn (pc := 0) 0 (by decide +kernel : decode cX4_placeNext 0 = .ok (.aload_n 0, 1)) rfl ?_
  obtain ⟨a1_, g2_, h⟩ := rv_b_e h
  refine re_gR (pc := 1) g2_ lfX4_13 rfl (by decide +kernel : decode cX4_placeNext 1 = .ok (.getfield 13, 3)) ?_
  refine re_iloadn (pc := 4) 3 (by decide +kernel : decode cX4_placeNext 4 = .ok (.iload_n 3, 1)) rfl ?_
  refine re_iconst (pc := 5) (1 : Int32) (by decide +kernel : decode cX4_placeNext 5 = .ok (.iconst 1, 1)) (by decide) ?_
  refine re_iadd (pc := 6) (by decide +kernel : decode cX4_placeNext 6 = .ok (.iadd, 1)) ?_
  obtain ⟨a3_, g4_, h⟩ := rv_b_e h
  refine re_aR (pc := 7) (t := 2) (by decide) g4_ (by decide +kernel : decode cX4_placeNext 7 = .ok (.aaload, 1)) ?_
  refine re_astore (pc := 8) (lv1 := [(6, .ref a3_), (0, .ref a0), (1, .ref a1), (2, .ref a2), (3, .int x3), (4, .int x4), (5, .int x5)]) (by decide +kernel : decode cX4_placeNext 8 = .ok (.astore 6, 2)) (by decide) rfl ?_
  refine re_aload (pc := 10) 0 (by decide +kernel : decode cX4_placeNext 10 = .ok (.aload 6, 2)) rfl ?_
  refine re_aloadn (pc := 12) 1 (by decide +kernel : decode cX4_placeNext 12 = .ok (.aload_n 0, 1)) rfl ?_
  obtain ⟨a5_, g6_, h⟩ := rv_b_e h
  refine re_gR (pc := 13) g6_ lfX4_13 rfl (by decide +kernel : decode cX4_placeNext 13 = .ok (.getfield 13, 3)) ?_
  refine re_iloadn (pc := 16) 4 (by decide +kernel : decode cX4_placeNext 16 = .ok (.iload_n 3, 1)) rfl ?_
  obtain ⟨a7_, g8_, h⟩ := rv_b_e h
  refine re_aR (pc := 17) (t := 2) (by decide) g8_ (by decide +kernel : decode cX4_placeNext 17 = .ok (.aaload, 1)) ?_
  obtain ⟨u9_, g10_, h⟩ := rv_b_e h
  obtain ⟨S12_, g13_, h⟩ := rv_b_e h
  have m11_ := metX6_copyFrom n S a3_ a7_ _ g13_
  have z14_ : rv_same S S12_ := m11_.sh rfl
  refine re_cV (pc := 18) [.ref a7_] m11_ (rv_okl.k z14_) (rv_up.sh z14_) (by omega) (rv_ck_e g10_) ⟨by decide, rfl⟩ (Nat.le_of_ble_eq_true rfl) lVX4_60 rfl (by decide +kernel : decode cX4_placeNext 18 = .ok (.invokevirtual 60, 3)) ?_
  refine re_aloadn (pc := 21) 3 (by decide +kernel : decode cX4_placeNext 21 = .ok (.aload_n 2, 1)) rfl ?_
  refine re_aloadn (pc := 22) 2 (by decide +kernel : decode cX4_placeNext 22 = .ok (.aload_n 1, 1)) rfl ?_
  refine re_aload (pc := 23) 0 (by decide +kernel : decode cX4_placeNext 23 = .ok (.aload 6, 2)) rfl ?_
  refine re_aloadn (pc := 25) 1 (by decide +kernel : decode cX4_placeNext 25 = .ok (.aload_n 0, 1)) rfl ?_
  obtain ⟨a15_, g16_, h⟩ := rv_b_e h
  refine re_gR (pc := 26) g16_ lfX4_21 rfl (by decide +kernel : decode cX4_placeNext 26 = .ok (.getfield 21, 3)) ?_
  refine re_iloadn (pc := 29) 4 (by decide +kernel : decode cX4_placeNext 29 = .ok (.iload_n 3, 1)) rfl ?_
  obtain ⟨x17_, g18_, h⟩ := rv_b_e h
  refine re_aI (pc := 30) g18_ (by decide +kernel : decode cX4_placeNext 30 = .ok (.iaload, 1)) ?_
  obtain ⟨u19_, g20_, h⟩ := rv_b_e h
  obtain ⟨x22_, S23_, g24_, h⟩ := rv_bp_e h
  have m21_ := metX5_payDebt n S12_ a2 a1 a3_ x17_ _ _ g24_
  have z25_ : rv_same S12_ S23_ := m21_.sh rfl
  refine re_cV (pc := 31) [.ref a1, .ref a3_, .int x17_] m21_ (rv_okl.k z25_) (rv_up.sh z25_) (by omega) (rv_ck_e g20_) ⟨by decide, rfl⟩ (Nat.le_of_ble_eq_true rfl) lVX4_75 rfl (by decide +kernel : decode cX4_placeNext 31 = .ok (.invokevirtual 75, 3)) ?_
  refine re_istore (pc := 34) (lv1 := [(7, .int x22_), (6, .ref a3_), (0, .ref a0), (1, .ref a1), (2, .ref a2), (3, .int x3), (4, .int x4), (5, .int x5)]) (by decide +kernel : decode cX4_placeNext 34 = .ok (.istore 7, 2)) (by decide) rfl ?_
  refine re_aloadn (pc := 36) 2 (by decide +kernel : decode cX4_placeNext 36 = .ok (.aload_n 0, 1)) rfl ?_
  refine re_aloadn (pc := 37) 3 (by decide +kernel : decode cX4_placeNext 37 = .ok (.aload_n 1, 1)) rfl ?_
  refine re_aloadn (pc := 38) 4 (by decide +kernel : decode cX4_placeNext 38 = .ok (.aload_n 2, 1)) rfl ?_
  refine re_iloadn (pc := 39) 5 (by decide +kernel : decode cX4_placeNext 39 = .ok (.iload_n 3, 1)) rfl ?_
  refine re_iconst (pc := 40) (1 : Int32) (by decide +kernel : decode cX4_placeNext 40 = .ok (.iconst 1, 1)) (by decide) ?_
  refine re_iadd (pc := 41) (by decide +kernel : decode cX4_placeNext 41 = .ok (.iadd, 1)) ?_
  refine re_iload (pc := 42) 6 (by decide +kernel : decode cX4_placeNext 42 = .ok (.iload 4, 2)) rfl ?_
  refine re_iload (pc := 44) 0 (by decide +kernel : decode cX4_placeNext 44 = .ok (.iload 7, 2)) rfl ?_
  rcases rv_if_e h with ⟨g26_, h⟩ | ⟨g26_, h⟩
  · refine re_if_lt_t (pc := 46) 56 (by decide +kernel : decode cX4_placeNext 46 = .ok (.ifCond .lt 10, 3)) (by decide) g26_ ?_
    refine re_iload (pc := 56) 7 (by decide +kernel : decode cX4_placeNext 56 = .ok (.iload 5, 2)) rfl ?_
    refine re_sub [] (lv1 := []) rfl ?_
    exact eX4_placeNext_58 n G0 G1 d hG0 hG1 S23_ a0 a1 a2 (x3 + (1 : Int32)) x4 x5 _ h
  · refine re_if_lt_f (pc := 46) 56 (by decide +kernel : decode cX4_placeNext 46 = .ok (.ifCond .lt 10, 3)) (by decide) g26_ ?_
    refine re_iload (pc := 49) 7 (by decide +kernel : decode cX4_placeNext 49 = .ok (.iload 5, 2)) rfl ?_
    refine re_iconst (pc := 51) (1 : Int32) (by decide +kernel : decode cX4_placeNext 51 = .ok (.iconst 1, 1)) (by decide) ?_
    refine re_iadd (pc := 52) (by decide +kernel : decode cX4_placeNext 52 = .ok (.iadd, 1)) ?_
    refine re_goto (pc := 53) 58 (by decide +kernel : decode cX4_placeNext 53 = .ok (.goto 5, 3)) (by decide) ?_
    refine re_sub [] (lv1 := []) rfl ?_
    exact eX4_placeNext_58 n G0 G1 d hG0 hG1 S23_ a0 a1 a2 (x3 + (1 : Int32)) x4 (x5 + (1 : Int32)) _ h
noncomputable def cX4_place_13 (n : Nat) (G0 : rvS → Nat → Nat → Nat → Int32 → Int32 → Int32 → Option rvS) (G1 : rvS → Nat → Nat → Nat → Int32 → Int32 → Int32 → Option rvS) (S : rvS) (a0 : Nat) (x5 : Int32) : Option rvS :=
  (rv_ck S 3 a0).bind fun u1_ =>
  (fnX4_keepBest n S a0 x5).bind fun S4_ =>
  some S4_
set_option maxRecDepth 20000 in
set_option maxHeartbeats 4000000 in
theorem eX4_place_13 (n : Nat) (G0 : rvS → Nat → Nat → Nat → Int32 → Int32 → Int32 → Option rvS) (G1 : rvS → Nat → Nat → Nat → Int32 → Int32 → Int32 → Option rvS) (d : Nat) (hG0 : ∀ (S : rvS) (z0 : Nat) (z1 : Nat) (z2 : Nat) (z3 : Int32) (z4 : Int32) (z5 : Int32) (S' : rvS), G0 S z0 z1 z2 z3 z4 z5 = some S' → rv_Met yX4_placeNext mX4_placeNext (5 + d) [.ref z0, .ref z1, .ref z2, .int z3, .int z4, .int z5] S none S') (hG1 : ∀ (S : rvS) (z0 : Nat) (z1 : Nat) (z2 : Nat) (z3 : Int32) (z4 : Int32) (z5 : Int32) (S' : rvS), G1 S z0 z1 z2 z3 z4 z5 = some S' → rv_Met yX4_place mX4_place (5 + d) [.ref z0, .ref z1, .ref z2, .int z3, .int z4, .int z5] S none S') (S : rvS) (a0 : Nat) (x5 : Int32) (S' : rvS) (h : cX4_place_13 n G0 G1 S a0 x5 = some S') : rv_Ev mX4_place (5 + d + 1) 13 [(0, .ref a0), (5, .int x5)] [] S none S' := by
  unfold cX4_place_13 at h
  refine re_aloadn (pc := 13) 0 (by decide +kernel : decode cX4_place 13 = .ok (.aload_n 0, 1)) rfl ?_
  refine re_iload (pc := 14) 1 (by decide +kernel : decode cX4_place 14 = .ok (.iload 5, 2)) rfl ?_
  obtain ⟨u1_, g2_, h⟩ := rv_b_e h
  obtain ⟨S4_, g5_, h⟩ := rv_b_e h
  have m3_ := metX4_keepBest n S a0 x5 _ g5_
  have z6_ : rv_same S S4_ := m3_.sh rfl
  refine re_cV (pc := 16) [.int x5] m3_ (rv_okl.k z6_) (rv_up.sh z6_) (by omega) (rv_ck_e g2_) ⟨by decide, rfl⟩ (Nat.le_of_ble_eq_true rfl) lVX4_68 rfl (by decide +kernel : decode cX4_place 16 = .ok (.invokevirtual 68, 3)) ?_
  cases h
  exact re_vret (by decide +kernel : decode cX4_place 19 = .ok (.return_, 1))
noncomputable def cX4_place_23 (n : Nat) (G0 : rvS → Nat → Nat → Nat → Int32 → Int32 → Int32 → Option rvS) (G1 : rvS → Nat → Nat → Nat → Int32 → Int32 → Int32 → Option rvS) : Nat → rvS → Nat → Nat → Nat → Int32 → Int32 → Int32 → Int32 → Option rvS
  | 0, _, _, _, _, _, _, _, _ => none
  | k + 1, S, a0, a1, a2, x3, x4, x5, x6 =>
    (rv_gI S 3 a0 4).bind fun x1_ =>
    if x1_ ≤ x6 then (
      some S)
    else (
      if (5 : Int32) ≤ x6 then (
        some S)
      else (
        if (((x4.toUInt32 >>> (x6.toUInt32 &&& Int32.toUInt32 31)).toInt32) &&& (1 : Int32)) = 0 then (
          (rv_gI S 3 a0 4).bind fun x8_ =>
          (rv_gI S 3 a0 6).bind fun x10_ =>
          if ((x5 + x8_) - x3) ≤ x10_ then (
            rv_lt (x6 + (1)) fun x13_ =>
            cX4_place_23 n G0 G1 k S a0 a1 a2 x3 x4 x5 x13_)
          else (
            (rv_gR S 3 a0 2).bind fun a15_ =>
            (rv_gR S 3 a0 1).bind fun a17_ =>
            (rv_aI S 0 a17_ x6).bind fun x19_ =>
            (rv_uI S a15_ x3 x19_).bind fun S21_ =>
            (rv_ck S21_ 3 a0).bind fun u23_ =>
            (G0 S21_ a0 a1 a2 x3 (x4 ||| ((1 : Int32) <<< (x6 &&& 31))) x5).bind fun S26_ =>
            rv_lt (x6 + (1)) fun x29_ =>
            cX4_place_23 n G0 G1 k S26_ a0 a1 a2 x3 x4 x5 x29_))
        else (
          rv_lt (x6 + (1)) fun x6_ =>
          cX4_place_23 n G0 G1 k S a0 a1 a2 x3 x4 x5 x6_)))
set_option maxRecDepth 20000 in
set_option maxHeartbeats 4000000 in
theorem eX4_place_23 (n : Nat) (G0 : rvS → Nat → Nat → Nat → Int32 → Int32 → Int32 → Option rvS) (G1 : rvS → Nat → Nat → Nat → Int32 → Int32 → Int32 → Option rvS) (d : Nat) (hG0 : ∀ (S : rvS) (z0 : Nat) (z1 : Nat) (z2 : Nat) (z3 : Int32) (z4 : Int32) (z5 : Int32) (S' : rvS), G0 S z0 z1 z2 z3 z4 z5 = some S' → rv_Met yX4_placeNext mX4_placeNext (5 + d) [.ref z0, .ref z1, .ref z2, .int z3, .int z4, .int z5] S none S') (hG1 : ∀ (S : rvS) (z0 : Nat) (z1 : Nat) (z2 : Nat) (z3 : Int32) (z4 : Int32) (z5 : Int32) (S' : rvS), G1 S z0 z1 z2 z3 z4 z5 = some S' → rv_Met yX4_place mX4_place (5 + d) [.ref z0, .ref z1, .ref z2, .int z3, .int z4, .int z5] S none S') : ∀ (k : Nat) (S : rvS) (a0 : Nat) (a1 : Nat) (a2 : Nat) (x3 : Int32) (x4 : Int32) (x5 : Int32) (x6 : Int32) (S' : rvS), cX4_place_23 n G0 G1 k S a0 a1 a2 x3 x4 x5 x6 = some S' → rv_Ev mX4_place (5 + d + 1) 23 [(0, .ref a0), (1, .ref a1), (2, .ref a2), (3, .int x3), (4, .int x4), (5, .int x5), (6, .int x6)] [] S none S' := by
  intro k
  induction k with
  | zero => intro S a0 a1 a2 x3 x4 x5 x6 S' h; exact absurd h (by simp [cX4_place_23])
  | succ k ih =>
    intro S a0 a1 a2 x3 x4 x5 x6 S' h
    unfold cX4_place_23 at h
    refine re_iload (pc := 23) 6 (by decide +kernel : decode cX4_place 23 = .ok (.iload 6, 2)) rfl ?_
    refine re_aloadn (pc := 25) 0 (by decide +kernel : decode cX4_place 25 = .ok (.aload_n 0, 1)) rfl ?_
    obtain ⟨x1_, g2_, h⟩ := rv_b_e h
    refine re_gI (pc := 26) g2_ lfX4_47 rfl (by decide +kernel : decode cX4_place 26 = .ok (.getfield 47, 3)) ?_
    rcases rv_if_e h with ⟨g3_, h⟩ | ⟨g3_, h⟩
    · refine re_icmp_ge_t (pc := 29) 99 (by decide +kernel : decode cX4_place 29 = .ok (.if_icmp .ge 70, 3)) (by decide) g3_ ?_
      cases h
      exact re_vret (by decide +kernel : decode cX4_place 99 = .ok (.return_, 1))
    · refine re_icmp_ge_f (pc := 29) 99 (by decide +kernel : decode cX4_place 29 = .ok (.if_icmp .ge 70, 3)) (by decide) g3_ ?_
      refine re_iload (pc := 32) 6 (by decide +kernel : decode cX4_place 32 = .ok (.iload 6, 2)) rfl ?_
      refine re_iconst (pc := 34) (5 : Int32) (by decide +kernel : decode cX4_place 34 = .ok (.iconst 5, 1)) (by decide) ?_
      rcases rv_if_e h with ⟨g4_, h⟩ | ⟨g4_, h⟩
      · refine re_icmp_ge_t (pc := 35) 99 (by decide +kernel : decode cX4_place 35 = .ok (.if_icmp .ge 64, 3)) (by decide) g4_ ?_
        cases h
        exact re_vret (by decide +kernel : decode cX4_place 99 = .ok (.return_, 1))
      · refine re_icmp_ge_f (pc := 35) 99 (by decide +kernel : decode cX4_place 35 = .ok (.if_icmp .ge 64, 3)) (by decide) g4_ ?_
        refine re_iload (pc := 38) 4 (by decide +kernel : decode cX4_place 38 = .ok (.iload 4, 2)) rfl ?_
        refine re_iload (pc := 40) 6 (by decide +kernel : decode cX4_place 40 = .ok (.iload 6, 2)) rfl ?_
        refine re_iushr (pc := 42) (by decide +kernel : decode cX4_place 42 = .ok (.iushr, 1)) ?_
        refine re_iconst (pc := 43) (1 : Int32) (by decide +kernel : decode cX4_place 43 = .ok (.iconst 1, 1)) (by decide) ?_
        refine re_iand (pc := 44) (by decide +kernel : decode cX4_place 44 = .ok (.iand, 1)) ?_
        rcases rv_if_e h with ⟨g5_, h⟩ | ⟨g5_, h⟩
        · refine re_if_ne_f (pc := 45) 93 (by decide +kernel : decode cX4_place 45 = .ok (.ifCond .ne 48, 3)) (by decide) g5_ ?_
          refine re_iload (pc := 48) 5 (by decide +kernel : decode cX4_place 48 = .ok (.iload 5, 2)) rfl ?_
          refine re_aloadn (pc := 50) 0 (by decide +kernel : decode cX4_place 50 = .ok (.aload_n 0, 1)) rfl ?_
          obtain ⟨x8_, g9_, h⟩ := rv_b_e h
          refine re_gI (pc := 51) g9_ lfX4_47 rfl (by decide +kernel : decode cX4_place 51 = .ok (.getfield 47, 3)) ?_
          refine re_iadd (pc := 54) (by decide +kernel : decode cX4_place 54 = .ok (.iadd, 1)) ?_
          refine re_iloadn (pc := 55) 3 (by decide +kernel : decode cX4_place 55 = .ok (.iload_n 3, 1)) rfl ?_
          refine re_isub (pc := 56) (by decide +kernel : decode cX4_place 56 = .ok (.isub, 1)) ?_
          refine re_aloadn (pc := 57) 0 (by decide +kernel : decode cX4_place 57 = .ok (.aload_n 0, 1)) rfl ?_
          obtain ⟨x10_, g11_, h⟩ := rv_b_e h
          refine re_gI (pc := 58) g11_ lfX4_50 rfl (by decide +kernel : decode cX4_place 58 = .ok (.getfield 50, 3)) ?_
          rcases rv_if_e h with ⟨g12_, h⟩ | ⟨g12_, h⟩
          · refine re_icmp_le_t (pc := 61) 93 (by decide +kernel : decode cX4_place 61 = .ok (.if_icmp .le 32, 3)) (by decide) g12_ ?_
            obtain ⟨x13_, g14_, h⟩ := rv_lt_e h
            refine re_iinc (pc := 93) 6 x13_ (lv1 := [(6, .int x13_), (0, .ref a0), (1, .ref a1), (2, .ref a2), (3, .int x3), (4, .int x4), (5, .int x5)]) (by decide +kernel : decode cX4_place 93 = .ok (.iinc 6 1, 3)) rfl g14_ (by decide) rfl ?_
            refine re_goto (pc := 96) 23 (by decide +kernel : decode cX4_place 96 = .ok (.goto (-73), 3)) (by decide) ?_
            refine re_sub [1, 2, 3, 4, 5, 6, 0] (lv1 := [(0, .ref a0), (1, .ref a1), (2, .ref a2), (3, .int x3), (4, .int x4), (5, .int x5), (6, .int x13_)]) rfl ?_
            exact ih S a0 a1 a2 x3 x4 x5 x13_ _ h
          · refine re_icmp_le_f (pc := 61) 93 (by decide +kernel : decode cX4_place 61 = .ok (.if_icmp .le 32, 3)) (by decide) g12_ ?_
            refine re_aloadn (pc := 64) 0 (by decide +kernel : decode cX4_place 64 = .ok (.aload_n 0, 1)) rfl ?_
            obtain ⟨a15_, g16_, h⟩ := rv_b_e h
            refine re_gR (pc := 65) g16_ lfX4_21 rfl (by decide +kernel : decode cX4_place 65 = .ok (.getfield 21, 3)) ?_
            refine re_iloadn (pc := 68) 3 (by decide +kernel : decode cX4_place 68 = .ok (.iload_n 3, 1)) rfl ?_
            refine re_aloadn (pc := 69) 0 (by decide +kernel : decode cX4_place 69 = .ok (.aload_n 0, 1)) rfl ?_
            obtain ⟨a17_, g18_, h⟩ := rv_b_e h
            refine re_gR (pc := 70) g18_ lfX4_17 rfl (by decide +kernel : decode cX4_place 70 = .ok (.getfield 17, 3)) ?_
            refine re_iload (pc := 73) 6 (by decide +kernel : decode cX4_place 73 = .ok (.iload 6, 2)) rfl ?_
            obtain ⟨x19_, g20_, h⟩ := rv_b_e h
            refine re_aI (pc := 75) g20_ (by decide +kernel : decode cX4_place 75 = .ok (.iaload, 1)) ?_
            obtain ⟨S21_, g22_, h⟩ := rv_b_e h
            refine re_uI (pc := 76) g22_ (by decide +kernel : decode cX4_place 76 = .ok (.iastore, 1)) ?_
            refine re_aloadn (pc := 77) 0 (by decide +kernel : decode cX4_place 77 = .ok (.aload_n 0, 1)) rfl ?_
            refine re_aloadn (pc := 78) 1 (by decide +kernel : decode cX4_place 78 = .ok (.aload_n 1, 1)) rfl ?_
            refine re_aloadn (pc := 79) 2 (by decide +kernel : decode cX4_place 79 = .ok (.aload_n 2, 1)) rfl ?_
            refine re_iloadn (pc := 80) 3 (by decide +kernel : decode cX4_place 80 = .ok (.iload_n 3, 1)) rfl ?_
            refine re_iload (pc := 81) 4 (by decide +kernel : decode cX4_place 81 = .ok (.iload 4, 2)) rfl ?_
            refine re_iconst (pc := 83) (1 : Int32) (by decide +kernel : decode cX4_place 83 = .ok (.iconst 1, 1)) (by decide) ?_
            refine re_iload (pc := 84) 6 (by decide +kernel : decode cX4_place 84 = .ok (.iload 6, 2)) rfl ?_
            refine re_ishl (pc := 86) (by decide +kernel : decode cX4_place 86 = .ok (.ishl, 1)) ?_
            refine re_ior (pc := 87) (by decide +kernel : decode cX4_place 87 = .ok (.ior, 1)) ?_
            refine re_iload (pc := 88) 5 (by decide +kernel : decode cX4_place 88 = .ok (.iload 5, 2)) rfl ?_
            obtain ⟨u23_, g24_, h⟩ := rv_b_e h
            obtain ⟨S26_, g27_, h⟩ := rv_b_e h
            have m25_ := hG0 S21_ a0 a1 a2 x3 (x4 ||| ((1 : Int32) <<< (x6 &&& 31))) x5 _ g27_
            have z28_ : rv_same S21_ S26_ := m25_.sh rfl
            refine re_cV (pc := 90) [.ref a1, .ref a2, .int x3, .int (x4 ||| ((1 : Int32) <<< (x6 &&& 31))), .int x5] m25_ (rv_okl.k z28_) (rv_up.sh z28_) (by omega) (rv_ck_e g24_) ⟨by decide, rfl⟩ (Nat.le_of_ble_eq_true rfl) lVX4_72 rfl (by decide +kernel : decode cX4_place 90 = .ok (.invokevirtual 72, 3)) ?_
            obtain ⟨x29_, g30_, h⟩ := rv_lt_e h
            refine re_iinc (pc := 93) 6 x29_ (lv1 := [(6, .int x29_), (0, .ref a0), (1, .ref a1), (2, .ref a2), (3, .int x3), (4, .int x4), (5, .int x5)]) (by decide +kernel : decode cX4_place 93 = .ok (.iinc 6 1, 3)) rfl g30_ (by decide) rfl ?_
            refine re_goto (pc := 96) 23 (by decide +kernel : decode cX4_place 96 = .ok (.goto (-73), 3)) (by decide) ?_
            refine re_sub [1, 2, 3, 4, 5, 6, 0] (lv1 := [(0, .ref a0), (1, .ref a1), (2, .ref a2), (3, .int x3), (4, .int x4), (5, .int x5), (6, .int x29_)]) rfl ?_
            exact ih S26_ a0 a1 a2 x3 x4 x5 x29_ _ h
        · refine re_if_ne_t (pc := 45) 93 (by decide +kernel : decode cX4_place 45 = .ok (.ifCond .ne 48, 3)) (by decide) g5_ ?_
          obtain ⟨x6_, g7_, h⟩ := rv_lt_e h
          refine re_iinc (pc := 93) 6 x6_ (lv1 := [(6, .int x6_), (0, .ref a0), (1, .ref a1), (2, .ref a2), (3, .int x3), (4, .int x4), (5, .int x5)]) (by decide +kernel : decode cX4_place 93 = .ok (.iinc 6 1, 3)) rfl g7_ (by decide) rfl ?_
          refine re_goto (pc := 96) 23 (by decide +kernel : decode cX4_place 96 = .ok (.goto (-73), 3)) (by decide) ?_
          refine re_sub [1, 2, 3, 4, 5, 6, 0] (lv1 := [(0, .ref a0), (1, .ref a1), (2, .ref a2), (3, .int x3), (4, .int x4), (5, .int x5), (6, .int x6_)]) rfl ?_
          exact ih S a0 a1 a2 x3 x4 x5 x6_ _ h
noncomputable def fbX4_place (n : Nat) (G0 : rvS → Nat → Nat → Nat → Int32 → Int32 → Int32 → Option rvS) (G1 : rvS → Nat → Nat → Nat → Int32 → Int32 → Int32 → Option rvS) (S : rvS) (a0 : Nat) (a1 : Nat) (a2 : Nat) (x3 : Int32) (x4 : Int32) (x5 : Int32) : Option rvS :=
  (rv_gI S 3 a0 4).bind fun x1_ =>
  if x1_ ≤ x3 then (
    cX4_place_13 n G0 G1 S a0 x5)
  else (
    if x3 < (5 : Int32) then (
      cX4_place_23 n G0 G1 n S a0 a1 a2 x3 x4 x5 (0 : Int32))
    else (
      cX4_place_13 n G0 G1 S a0 x5))
set_option maxRecDepth 20000 in
set_option maxHeartbeats 4000000 in
theorem eX4_place_in (n : Nat) (G0 : rvS → Nat → Nat → Nat → Int32 → Int32 → Int32 → Option rvS) (G1 : rvS → Nat → Nat → Nat → Int32 → Int32 → Int32 → Option rvS) (d : Nat) (hG0 : ∀ (S : rvS) (z0 : Nat) (z1 : Nat) (z2 : Nat) (z3 : Int32) (z4 : Int32) (z5 : Int32) (S' : rvS), G0 S z0 z1 z2 z3 z4 z5 = some S' → rv_Met yX4_placeNext mX4_placeNext (5 + d) [.ref z0, .ref z1, .ref z2, .int z3, .int z4, .int z5] S none S') (hG1 : ∀ (S : rvS) (z0 : Nat) (z1 : Nat) (z2 : Nat) (z3 : Int32) (z4 : Int32) (z5 : Int32) (S' : rvS), G1 S z0 z1 z2 z3 z4 z5 = some S' → rv_Met yX4_place mX4_place (5 + d) [.ref z0, .ref z1, .ref z2, .int z3, .int z4, .int z5] S none S') (S : rvS) (a0 : Nat) (a1 : Nat) (a2 : Nat) (x3 : Int32) (x4 : Int32) (x5 : Int32) (S' : rvS) (h : fbX4_place n G0 G1 S a0 a1 a2 x3 x4 x5 = some S') : rv_Ev mX4_place (5 + d + 1) 0 [(0, .ref a0), (1, .ref a1), (2, .ref a2), (3, .int x3), (4, .int x4), (5, .int x5)] [] S none S' := by
  unfold fbX4_place at h
  refine re_iloadn (pc := 0) 3 (by decide +kernel : decode cX4_place 0 = .ok (.iload_n 3, 1)) rfl ?_
  refine re_aloadn (pc := 1) 0 (by decide +kernel : decode cX4_place 1 = .ok (.aload_n 0, 1)) rfl ?_
  obtain ⟨x1_, g2_, h⟩ := rv_b_e h
  refine re_gI (pc := 2) g2_ lfX4_47 rfl (by decide +kernel : decode cX4_place 2 = .ok (.getfield 47, 3)) ?_
  rcases rv_if_e h with ⟨g3_, h⟩ | ⟨g3_, h⟩
  · refine re_icmp_ge_t (pc := 5) 13 (by decide +kernel : decode cX4_place 5 = .ok (.if_icmp .ge 8, 3)) (by decide) g3_ ?_
    refine re_sub [0, 5] (lv1 := [(0, .ref a0), (5, .int x5)]) rfl ?_
    exact eX4_place_13 n G0 G1 d hG0 hG1 S a0 x5 _ h
  · refine re_icmp_ge_f (pc := 5) 13 (by decide +kernel : decode cX4_place 5 = .ok (.if_icmp .ge 8, 3)) (by decide) g3_ ?_
    refine re_iloadn (pc := 8) 3 (by decide +kernel : decode cX4_place 8 = .ok (.iload_n 3, 1)) rfl ?_
    refine re_iconst (pc := 9) (5 : Int32) (by decide +kernel : decode cX4_place 9 = .ok (.iconst 5, 1)) (by decide) ?_
    rcases rv_if_e h with ⟨g4_, h⟩ | ⟨g4_, h⟩
    · refine re_icmp_lt_t (pc := 10) 20 (by decide +kernel : decode cX4_place 10 = .ok (.if_icmp .lt 10, 3)) (by decide) g4_ ?_
      refine re_iconst (pc := 20) (0 : Int32) (by decide +kernel : decode cX4_place 20 = .ok (.iconst 0, 1)) (by decide) ?_
      refine re_istore (pc := 21) (lv1 := [(6, .int (0 : Int32)), (0, .ref a0), (1, .ref a1), (2, .ref a2), (3, .int x3), (4, .int x4), (5, .int x5)]) (by decide +kernel : decode cX4_place 21 = .ok (.istore 6, 2)) (by decide) rfl ?_
      refine re_sub [1, 2, 3, 4, 5, 6, 0] (lv1 := [(0, .ref a0), (1, .ref a1), (2, .ref a2), (3, .int x3), (4, .int x4), (5, .int x5), (6, .int (0 : Int32))]) rfl ?_
      exact eX4_place_23 n G0 G1 d hG0 hG1 n S a0 a1 a2 x3 x4 x5 (0 : Int32) _ h
    · refine re_icmp_lt_f (pc := 10) 20 (by decide +kernel : decode cX4_place 10 = .ok (.if_icmp .lt 10, 3)) (by decide) g4_ ?_
      refine re_sub [0, 5] (lv1 := [(0, .ref a0), (5, .int x5)]) rfl ?_
      exact eX4_place_13 n G0 G1 d hG0 hG1 S a0 x5 _ h
noncomputable def fGX4_placeNext (n : Nat) : Nat → (rvS → Nat → Nat → Nat → Int32 → Int32 → Int32 → Option rvS) × (rvS → Nat → Nat → Nat → Int32 → Int32 → Int32 → Option rvS)
  | 0 => (fun _ _ _ _ _ _ _ => none, fun _ _ _ _ _ _ _ => none)
  | d + 1 => (fbX4_placeNext n ((fGX4_placeNext n d).1) ((fGX4_placeNext n d).2), fbX4_place n ((fGX4_placeNext n d).1) ((fGX4_placeNext n d).2))
theorem fGX4_placeNext_ok (n : Nat) : ∀ d : Nat, (∀ (S : rvS) (z0 : Nat) (z1 : Nat) (z2 : Nat) (z3 : Int32) (z4 : Int32) (z5 : Int32) (S' : rvS), ((fGX4_placeNext n d).1) S z0 z1 z2 z3 z4 z5 = some S' → rv_Met yX4_placeNext mX4_placeNext (5 + d) [.ref z0, .ref z1, .ref z2, .int z3, .int z4, .int z5] S none S') ∧ (∀ (S : rvS) (z0 : Nat) (z1 : Nat) (z2 : Nat) (z3 : Int32) (z4 : Int32) (z5 : Int32) (S' : rvS), ((fGX4_placeNext n d).2) S z0 z1 z2 z3 z4 z5 = some S' → rv_Met yX4_place mX4_place (5 + d) [.ref z0, .ref z1, .ref z2, .int z3, .int z4, .int z5] S none S') := by
  intro d
  induction d with
  | zero => exact ⟨(by intros; rename_i h; exact absurd h (by simp [fGX4_placeNext])), (by intros; rename_i h; exact absurd h (by simp [fGX4_placeNext]))⟩
  | succ d ih =>
    obtain ⟨i0, i1⟩ := ih
    exact ⟨(fun S z0 z1 z2 z3 z4 z5 S' h => rv_Met.of ⟨by decide +kernel, rfl, (fun z => by first | rfl | cases z), rfl⟩ (Nat.le_of_ble_eq_true rfl) rfl (eX4_placeNext_in n ((fGX4_placeNext n d).1) ((fGX4_placeNext n d).2) d i0 i1 S z0 z1 z2 z3 z4 z5 S' h)), (fun S z0 z1 z2 z3 z4 z5 S' h => rv_Met.of ⟨by decide +kernel, rfl, (fun z => by first | rfl | cases z), rfl⟩ (Nat.le_of_ble_eq_true rfl) rfl (eX4_place_in n ((fGX4_placeNext n d).1) ((fGX4_placeNext n d).2) d i0 i1 S z0 z1 z2 z3 z4 z5 S' h))⟩
noncomputable def fnX4_placeNext (n d : Nat) : rvS → Nat → Nat → Nat → Int32 → Int32 → Int32 → Option rvS := (fGX4_placeNext n d).1
theorem metX4_placeNext (n d : Nat) (S : rvS) (z0 : Nat) (z1 : Nat) (z2 : Nat) (z3 : Int32) (z4 : Int32) (z5 : Int32) (S' : rvS) (h : fnX4_placeNext n d S z0 z1 z2 z3 z4 z5 = some S') : rv_Met yX4_placeNext mX4_placeNext (5 + d) [.ref z0, .ref z1, .ref z2, .int z3, .int z4, .int z5] S none S' := (fGX4_placeNext_ok n d).1 S z0 z1 z2 z3 z4 z5 S' h
noncomputable def fnX4_place (n d : Nat) : rvS → Nat → Nat → Nat → Int32 → Int32 → Int32 → Option rvS := (fGX4_placeNext n d).2
theorem metX4_place (n d : Nat) (S : rvS) (z0 : Nat) (z1 : Nat) (z2 : Nat) (z3 : Int32) (z4 : Int32) (z5 : Int32) (S' : rvS) (h : fnX4_place n d S z0 z1 z2 z3 z4 z5 = some S') : rv_Met yX4_place mX4_place (5 + d) [.ref z0, .ref z1, .ref z2, .int z3, .int z4, .int z5] S none S' := (fGX4_placeNext_ok n d).2 S z0 z1 z2 z3 z4 z5 S' h
noncomputable def fnX4_best (n : Nat) (S : rvS) (a0 : Nat) (a1 : Nat) (a2 : Nat) : Option (Int32 × rvS) :=
  (rv_pI S 3 a0 6 (-1 : Int32)).bind fun S1_ =>
  (rv_gI S1_ 3 a0 4).bind fun x3_ =>
  (rv_pI S1_ 3 a0 5 x3_).bind fun S5_ =>
  (rv_gR S5_ 3 a0 0).bind fun a7_ =>
  (rv_aR S5_ 6 a7_ (0 : Int32)).bind fun a9_ =>
  (rv_gR S5_ 8 a1 1).bind fun a11_ =>
  (rv_ck S5_ 5 a9_).bind fun u13_ =>
  (fnX6_copyFrom n S5_ a9_ a11_).bind fun S16_ =>
  (rv_ck S16_ 3 a0).bind fun u19_ =>
  (fnX4_place n 16 S16_ a0 a1 a2 (0 : Int32) (0 : Int32) (0 : Int32)).bind fun S22_ =>
  (rv_gI S22_ 3 a0 6).bind fun x25_ =>
  some (x25_, S22_)
set_option maxRecDepth 20000 in
set_option maxHeartbeats 4000000 in
theorem eX4_best_in (n : Nat) (S : rvS) (a0 : Nat) (a1 : Nat) (a2 : Nat) (r : Int32) (S' : rvS) (h : fnX4_best n S a0 a1 a2 = some (r, S')) : rv_Ev mX4_best 22 0 [(0, .ref a0), (1, .ref a1), (2, .ref a2)] [] S (some (.int r)) S' := by
  unfold fnX4_best at h
  refine re_aloadn (pc := 0) 0 (by decide +kernel : decode cX4_best 0 = .ok (.aload_n 0, 1)) rfl ?_
  refine re_iconst (pc := 1) (-1 : Int32) (by decide +kernel : decode cX4_best 1 = .ok (.iconst (-1), 1)) (by decide) ?_
  obtain ⟨S1_, g2_, h⟩ := rv_b_e h
  refine re_pI (pc := 2) g2_ lfX4_50 rfl rfl rfl rfl (by decide +kernel : decode cX4_best 2 = .ok (.putfield 50, 3)) ?_
  refine re_aloadn (pc := 5) 0 (by decide +kernel : decode cX4_best 5 = .ok (.aload_n 0, 1)) rfl ?_
  refine re_aloadn (pc := 6) 0 (by decide +kernel : decode cX4_best 6 = .ok (.aload_n 0, 1)) rfl ?_
  obtain ⟨x3_, g4_, h⟩ := rv_b_e h
  refine re_gI (pc := 7) g4_ lfX4_47 rfl (by decide +kernel : decode cX4_best 7 = .ok (.getfield 47, 3)) ?_
  obtain ⟨S5_, g6_, h⟩ := rv_b_e h
  refine re_pI (pc := 10) g6_ lfX4_53 rfl rfl rfl rfl (by decide +kernel : decode cX4_best 10 = .ok (.putfield 53, 3)) ?_
  refine re_aloadn (pc := 13) 0 (by decide +kernel : decode cX4_best 13 = .ok (.aload_n 0, 1)) rfl ?_
  obtain ⟨a7_, g8_, h⟩ := rv_b_e h
  refine re_gR (pc := 14) g8_ lfX4_13 rfl (by decide +kernel : decode cX4_best 14 = .ok (.getfield 13, 3)) ?_
  refine re_iconst (pc := 17) (0 : Int32) (by decide +kernel : decode cX4_best 17 = .ok (.iconst 0, 1)) (by decide) ?_
  obtain ⟨a9_, g10_, h⟩ := rv_b_e h
  refine re_aR (pc := 18) (t := 2) (by decide) g10_ (by decide +kernel : decode cX4_best 18 = .ok (.aaload, 1)) ?_
  refine re_aloadn (pc := 19) 1 (by decide +kernel : decode cX4_best 19 = .ok (.aload_n 1, 1)) rfl ?_
  obtain ⟨a11_, g12_, h⟩ := rv_b_e h
  refine re_gR (pc := 20) g12_ lfX4_56 rfl (by decide +kernel : decode cX4_best 20 = .ok (.getfield 56, 3)) ?_
  obtain ⟨u13_, g14_, h⟩ := rv_b_e h
  obtain ⟨S16_, g17_, h⟩ := rv_b_e h
  have m15_ := metX6_copyFrom n S5_ a9_ a11_ _ g17_
  have z18_ : rv_same S5_ S16_ := m15_.sh rfl
  refine re_cV (pc := 23) [.ref a11_] m15_ (rv_okl.k z18_) (rv_up.sh z18_) (by decide) (rv_ck_e g14_) ⟨by decide, rfl⟩ (Nat.le_of_ble_eq_true rfl) lVX4_60 rfl (by decide +kernel : decode cX4_best 23 = .ok (.invokevirtual 60, 3)) ?_
  refine re_aloadn (pc := 26) 0 (by decide +kernel : decode cX4_best 26 = .ok (.aload_n 0, 1)) rfl ?_
  refine re_aloadn (pc := 27) 1 (by decide +kernel : decode cX4_best 27 = .ok (.aload_n 1, 1)) rfl ?_
  refine re_aloadn (pc := 28) 2 (by decide +kernel : decode cX4_best 28 = .ok (.aload_n 2, 1)) rfl ?_
  refine re_iconst (pc := 29) (0 : Int32) (by decide +kernel : decode cX4_best 29 = .ok (.iconst 0, 1)) (by decide) ?_
  refine re_iconst (pc := 30) (0 : Int32) (by decide +kernel : decode cX4_best 30 = .ok (.iconst 0, 1)) (by decide) ?_
  refine re_iconst (pc := 31) (0 : Int32) (by decide +kernel : decode cX4_best 31 = .ok (.iconst 0, 1)) (by decide) ?_
  obtain ⟨u19_, g20_, h⟩ := rv_b_e h
  obtain ⟨S22_, g23_, h⟩ := rv_b_e h
  have m21_ := metX4_place n 16 S16_ a0 a1 a2 (0 : Int32) (0 : Int32) (0 : Int32) _ g23_
  have z24_ : rv_same S16_ S22_ := m21_.sh rfl
  refine re_cV (pc := 32) [.ref a1, .ref a2, .int (0 : Int32), .int (0 : Int32), .int (0 : Int32)] m21_ (rv_okl.k z24_) (rv_up.sh z24_) (by decide) (rv_ck_e g20_) ⟨by decide, rfl⟩ (Nat.le_of_ble_eq_true rfl) lVX4_64 rfl (by decide +kernel : decode cX4_best 32 = .ok (.invokevirtual 64, 3)) ?_
  refine re_aloadn (pc := 35) 0 (by decide +kernel : decode cX4_best 35 = .ok (.aload_n 0, 1)) rfl ?_
  obtain ⟨x25_, g26_, h⟩ := rv_b_e h
  refine re_gI (pc := 36) g26_ lfX4_50 rfl (by decide +kernel : decode cX4_best 36 = .ok (.getfield 50, 3)) ?_
  cases h
  exact re_iret (fun ty hty => by cases hty; rfl) (by decide +kernel : decode cX4_best 39 = .ok (.ireturn, 1))
theorem metX4_best (n : Nat) (S : rvS) (a0 : Nat) (a1 : Nat) (a2 : Nat) (r : Int32) (S' : rvS) (h : fnX4_best n S a0 a1 a2 = some (r, S')) : rv_Met yX4_best mX4_best 22 [.ref a0, .ref a1, .ref a2] S (some (.int r)) S' := rv_Met.of ⟨by decide +kernel, rfl, (fun z => by first | rfl | cases z), rfl⟩ (Nat.le_of_ble_eq_true rfl) rfl (eX4_best_in n S a0 a1 a2 r S' h)
noncomputable def fnX4_debtAt (n : Nat) (S : rvS) (a0 : Nat) (x1 : Int32) : Option Int32 :=
  if x1 < 0 then (
    some (-1 : Int32))
  else (
    (rv_gI S 3 a0 5).bind fun x2_ =>
    if x2_ ≤ x1 then (
      some (-1 : Int32))
    else (
      if (5 : Int32) ≤ x1 then (
        some (-1 : Int32))
      else (
        (rv_gR S 3 a0 3).bind fun a6_ =>
        (rv_aI S 0 a6_ x1).bind fun x8_ =>
        some x8_)))
set_option maxRecDepth 20000 in
set_option maxHeartbeats 4000000 in
theorem eX4_debtAt_in (n : Nat) (S : rvS) (a0 : Nat) (x1 : Int32) (r : Int32) (h : fnX4_debtAt n S a0 x1 = some r) : rv_Ev mX4_debtAt 0 0 [(0, .ref a0), (1, .int x1)] [] S (some (.int r)) S := by
  unfold fnX4_debtAt at h
  refine re_iloadn (pc := 0) 1 (by decide +kernel : decode cX4_debtAt 0 = .ok (.iload_n 1, 1)) rfl ?_
  rcases rv_if_e h with ⟨g1_, h⟩ | ⟨g1_, h⟩
  · refine re_if_lt_t (pc := 1) 26 (by decide +kernel : decode cX4_debtAt 1 = .ok (.ifCond .lt 25, 3)) (by decide) g1_ ?_
    refine re_iconst (pc := 26) (-1 : Int32) (by decide +kernel : decode cX4_debtAt 26 = .ok (.iconst (-1), 1)) (by decide) ?_
    cases h
    exact re_iret (fun ty hty => by cases hty; rfl) (by decide +kernel : decode cX4_debtAt 27 = .ok (.ireturn, 1))
  · refine re_if_lt_f (pc := 1) 26 (by decide +kernel : decode cX4_debtAt 1 = .ok (.ifCond .lt 25, 3)) (by decide) g1_ ?_
    refine re_iloadn (pc := 4) 1 (by decide +kernel : decode cX4_debtAt 4 = .ok (.iload_n 1, 1)) rfl ?_
    refine re_aloadn (pc := 5) 0 (by decide +kernel : decode cX4_debtAt 5 = .ok (.aload_n 0, 1)) rfl ?_
    obtain ⟨x2_, g3_, h⟩ := rv_b_e h
    refine re_gI (pc := 6) g3_ lfX4_53 rfl (by decide +kernel : decode cX4_debtAt 6 = .ok (.getfield 53, 3)) ?_
    rcases rv_if_e h with ⟨g4_, h⟩ | ⟨g4_, h⟩
    · refine re_icmp_ge_t (pc := 9) 26 (by decide +kernel : decode cX4_debtAt 9 = .ok (.if_icmp .ge 17, 3)) (by decide) g4_ ?_
      refine re_iconst (pc := 26) (-1 : Int32) (by decide +kernel : decode cX4_debtAt 26 = .ok (.iconst (-1), 1)) (by decide) ?_
      cases h
      exact re_iret (fun ty hty => by cases hty; rfl) (by decide +kernel : decode cX4_debtAt 27 = .ok (.ireturn, 1))
    · refine re_icmp_ge_f (pc := 9) 26 (by decide +kernel : decode cX4_debtAt 9 = .ok (.if_icmp .ge 17, 3)) (by decide) g4_ ?_
      refine re_iloadn (pc := 12) 1 (by decide +kernel : decode cX4_debtAt 12 = .ok (.iload_n 1, 1)) rfl ?_
      refine re_iconst (pc := 13) (5 : Int32) (by decide +kernel : decode cX4_debtAt 13 = .ok (.iconst 5, 1)) (by decide) ?_
      rcases rv_if_e h with ⟨g5_, h⟩ | ⟨g5_, h⟩
      · refine re_icmp_ge_t (pc := 14) 26 (by decide +kernel : decode cX4_debtAt 14 = .ok (.if_icmp .ge 12, 3)) (by decide) g5_ ?_
        refine re_iconst (pc := 26) (-1 : Int32) (by decide +kernel : decode cX4_debtAt 26 = .ok (.iconst (-1), 1)) (by decide) ?_
        cases h
        exact re_iret (fun ty hty => by cases hty; rfl) (by decide +kernel : decode cX4_debtAt 27 = .ok (.ireturn, 1))
      · refine re_icmp_ge_f (pc := 14) 26 (by decide +kernel : decode cX4_debtAt 14 = .ok (.if_icmp .ge 12, 3)) (by decide) g5_ ?_
        refine re_aloadn (pc := 17) 0 (by decide +kernel : decode cX4_debtAt 17 = .ok (.aload_n 0, 1)) rfl ?_
        obtain ⟨a6_, g7_, h⟩ := rv_b_e h
        refine re_gR (pc := 18) g7_ lfX4_24 rfl (by decide +kernel : decode cX4_debtAt 18 = .ok (.getfield 24, 3)) ?_
        refine re_iloadn (pc := 21) 1 (by decide +kernel : decode cX4_debtAt 21 = .ok (.iload_n 1, 1)) rfl ?_
        obtain ⟨x8_, g9_, h⟩ := rv_b_e h
        refine re_aI (pc := 22) g9_ (by decide +kernel : decode cX4_debtAt 22 = .ok (.iaload, 1)) ?_
        refine re_goto (pc := 23) 27 (by decide +kernel : decode cX4_debtAt 23 = .ok (.goto 4, 3)) (by decide) ?_
        cases h
        exact re_iret (fun ty hty => by cases hty; rfl) (by decide +kernel : decode cX4_debtAt 27 = .ok (.ireturn, 1))
theorem metX4_debtAt (n : Nat) (S : rvS) (a0 : Nat) (x1 : Int32) (r : Int32) (h : fnX4_debtAt n S a0 x1 = some r) : rv_Met yX4_debtAt mX4_debtAt 0 [.ref a0, .int x1] S (some (.int r)) S := rv_Met.of ⟨by decide +kernel, rfl, (fun z => by first | rfl | cases z), rfl⟩ (Nat.le_of_ble_eq_true rfl) rfl (eX4_debtAt_in n S a0 x1 r h)
noncomputable def fnX5_init (n : Nat) (S : rvS) (a0 : Nat) : Option rvS :=
  (rv_vl S a0).bind fun _ =>
  rv_lt (64 + S.1.length) fun a2_ =>
  rv_lt (rv_new S (51, 1000)) fun S4_ =>
  (rv_pR S4_ 4 a0 0 a2_).bind fun S8_ =>
  rv_lt (64 + S8_.1.length) fun a12_ =>
  rv_lt (rv_new S8_ (51, 10000)) fun S14_ =>
  (rv_pR S14_ 4 a0 1 a12_).bind fun S19_ =>
  some S19_
set_option maxRecDepth 20000 in
set_option maxHeartbeats 4000000 in
theorem eX5_init_in (n : Nat) (S : rvS) (a0 : Nat) (S' : rvS) (h : fnX5_init n S a0 = some S') : rv_Ev mX5_init 1 0 [(0, .ref a0)] [] S none S' := by
  unfold fnX5_init at h
  obtain ⟨_, g1_, h⟩ := rv_b_e h
  refine re_aloadn (pc := 0) 0 (by decide +kernel : decode cX5_init 0 = .ok (.aload_n 0, 1)) rfl ?_
  refine re_obj (pc := 1) (rw2 35 (by decide +kernel) rfl) rwoi rwoc (Nat.le_of_ble_eq_true rfl) (by decide) (by decide +kernel : decode cX5_init 1 = .ok (.invokespecial 5, 3)) ?_
  refine re_aloadn (pc := 4) 0 (by decide +kernel : decode cX5_init 4 = .ok (.aload_n 0, 1)) rfl ?_
  refine re_sipush (pc := 5) (1000 : Int32) (by decide +kernel : decode cX5_init 5 = .ok (.sipush 1000, 3)) (by decide) ?_
  refine re_newa (pc := 8) (t := 1) (N := 1000) rfl (rv_alv (List.forall_mem_cons.mpr ⟨(rv_vl_e g1_), (fun _ z => absurd z List.not_mem_nil)⟩)) ((List.forall_mem_cons.mpr ⟨(rv_vl_e g1_), (fun _ z => absurd z List.not_mem_nil)⟩)) (by decide) rfl (rw1 138 (by decide +kernel) rfl) (by decide) (by decide) (by decide) (by decide +kernel : decode cX5_init 8 = .ok (.newarray .long, 2)) ?_
  obtain ⟨a2_, g3_, h⟩ := rv_lt_e h
  refine re_nR g3_ ?_
  obtain ⟨S4_, g5_, h⟩ := rv_lt_e h
  refine re_nS g5_ ?_
  have o6_ : a0 < 64 + S4_.1.length := rv_okn g5_ (rv_vl_e g1_)
  have o7_ : a2_ < 64 + S4_.1.length := by rw [← g3_]; exact rv_okn0 g5_
  obtain ⟨S8_, g9_, h⟩ := rv_b_e h
  have o10_ : a0 < 64 + S8_.1.length := by rw [rv_pR_sh g9_]; exact o6_
  have o11_ : a2_ < 64 + S8_.1.length := by rw [rv_pR_sh g9_]; exact o7_
  refine re_pR (pc := 10) g9_ lfX5_11 rfl (Or.inr ⟨rfl, rfl, rfl, (rw2 36 (by decide +kernel) rfl)⟩) (by decide +kernel : decode cX5_init 10 = .ok (.putfield 11, 3)) ?_
  refine re_aloadn (pc := 13) 0 (by decide +kernel : decode cX5_init 13 = .ok (.aload_n 0, 1)) rfl ?_
  refine re_sipush (pc := 14) (10000 : Int32) (by decide +kernel : decode cX5_init 14 = .ok (.sipush 10000, 3)) (by decide) ?_
  refine re_newa (pc := 17) (t := 1) (N := 10000) rfl (rv_alv (List.forall_mem_cons.mpr ⟨o10_, (fun _ z => absurd z List.not_mem_nil)⟩)) ((List.forall_mem_cons.mpr ⟨o10_, (fun _ z => absurd z List.not_mem_nil)⟩)) (by decide) rfl (rw1 138 (by decide +kernel) rfl) (by decide) (by decide) (by decide) (by decide +kernel : decode cX5_init 17 = .ok (.newarray .long, 2)) ?_
  obtain ⟨a12_, g13_, h⟩ := rv_lt_e h
  refine re_nR g13_ ?_
  obtain ⟨S14_, g15_, h⟩ := rv_lt_e h
  refine re_nS g15_ ?_
  have o16_ : a0 < 64 + S14_.1.length := rv_okn g15_ o10_
  have o17_ : a2_ < 64 + S14_.1.length := rv_okn g15_ o11_
  have o18_ : a12_ < 64 + S14_.1.length := by rw [← g13_]; exact rv_okn0 g15_
  obtain ⟨S19_, g20_, h⟩ := rv_b_e h
  have o21_ : a0 < 64 + S19_.1.length := by rw [rv_pR_sh g20_]; exact o16_
  have o22_ : a2_ < 64 + S19_.1.length := by rw [rv_pR_sh g20_]; exact o17_
  have o23_ : a12_ < 64 + S19_.1.length := by rw [rv_pR_sh g20_]; exact o18_
  refine re_pR (pc := 19) g20_ lfX5_17 rfl (Or.inr ⟨rfl, rfl, rfl, (rw2 37 (by decide +kernel) rfl)⟩) (by decide +kernel : decode cX5_init 19 = .ok (.putfield 17, 3)) ?_
  cases h
  exact re_vret (by decide +kernel : decode cX5_init 22 = .ok (.return_, 1))
theorem metX5_init (n : Nat) (S : rvS) (a0 : Nat) (S' : rvS) (h : fnX5_init n S a0 = some S') : rv_Met yX5_init mX5_init 1 [.ref a0] S none S' := rv_Met.of ⟨by decide +kernel, rfl, (fun z => by first | rfl | cases z), rfl⟩ (Nat.le_of_ble_eq_true rfl) rfl (eX5_init_in n S a0 S' h)
noncomputable def cX5_addDayCoin_89 (n : Nat) (K3 : Nat → Int32 → Int32 → Int32 → Int32 → Int32 → rvS → Option rvS) (K12 : Nat → Int32 → Int32 → Int32 → Int32 → Int32 → Int32 → rvS → Option rvS) (S : rvS) (a0 : Nat) (x1 : Int32) (x2 : Int32) (x4 : Int32) (x5 : Int32) (x6 : Int32) (x7 : Int32) (x8 : Int32) (x9 : Int64) : Option rvS :=
  (rv_gR S 4 a0 1).bind fun a1_ =>
  (rv_uL S a1_ x8 x9).bind fun S3_ =>
  rv_lt (x7 + (-1)) fun x5_ =>
  K12 a0 x1 x2 x4 x5 x6 x5_ S3_
set_option maxRecDepth 20000 in
set_option maxHeartbeats 4000000 in
theorem eX5_addDayCoin_89 (n : Nat) (K3 : Nat → Int32 → Int32 → Int32 → Int32 → Int32 → rvS → Option rvS) (K12 : Nat → Int32 → Int32 → Int32 → Int32 → Int32 → Int32 → rvS → Option rvS) (hK3 : ∀ (a0 : Nat) (x1 : Int32) (x2 : Int32) (x4 : Int32) (x5 : Int32) (x6 : Int32) (S : rvS) (S' : rvS), K3 a0 x1 x2 x4 x5 x6 S = some S' → rv_Ev mX5_addDayCoin 1 3 [(0, .ref a0), (1, .int x1), (2, .int x2), (4, .int x4), (5, .int x5), (6, .int x6)] [] S none S') (hK12 : ∀ (a0 : Nat) (x1 : Int32) (x2 : Int32) (x4 : Int32) (x5 : Int32) (x6 : Int32) (x7 : Int32) (S : rvS) (S' : rvS), K12 a0 x1 x2 x4 x5 x6 x7 S = some S' → rv_Ev mX5_addDayCoin 1 12 [(0, .ref a0), (1, .int x1), (2, .int x2), (4, .int x4), (5, .int x5), (6, .int x6), (7, .int x7)] [] S none S') (S : rvS) (a0 : Nat) (x1 : Int32) (x2 : Int32) (x4 : Int32) (x5 : Int32) (x6 : Int32) (x7 : Int32) (x8 : Int32) (x9 : Int64) (S' : rvS) (h : cX5_addDayCoin_89 n K3 K12 S a0 x1 x2 x4 x5 x6 x7 x8 x9 = some S') : rv_Ev mX5_addDayCoin 1 89 [(0, .ref a0), (1, .int x1), (2, .int x2), (4, .int x4), (5, .int x5), (6, .int x6), (7, .int x7), (8, .int x8), (9, .long x9)] [] S none S' := by
  unfold cX5_addDayCoin_89 at h
  refine re_aloadn (pc := 89) 0 (by decide +kernel : decode cX5_addDayCoin 89 = .ok (.aload_n 0, 1)) rfl ?_
  obtain ⟨a1_, g2_, h⟩ := rv_b_e h
  refine re_gR (pc := 90) g2_ lfX5_17 rfl (by decide +kernel : decode cX5_addDayCoin 90 = .ok (.getfield 17, 3)) ?_
  refine re_iload (pc := 93) 7 (by decide +kernel : decode cX5_addDayCoin 93 = .ok (.iload 8, 2)) rfl ?_
  refine re_lload (pc := 95) 8 (by decide +kernel : decode cX5_addDayCoin 95 = .ok (.lload 9, 2)) rfl ?_
  obtain ⟨S3_, g4_, h⟩ := rv_b_e h
  refine re_uL (pc := 97) g4_ (by decide +kernel : decode cX5_addDayCoin 97 = .ok (.lastore, 1)) ?_
  obtain ⟨x5_, g6_, h⟩ := rv_lt_e h
  refine re_iinc (pc := 98) 6 x5_ (lv1 := [(7, .int x5_), (0, .ref a0), (1, .int x1), (2, .int x2), (4, .int x4), (5, .int x5), (6, .int x6), (8, .int x8), (9, .long x9)]) (by decide +kernel : decode cX5_addDayCoin 98 = .ok (.iinc 7 (-1), 3)) rfl g6_ (by decide) rfl ?_
  refine re_goto (pc := 101) 12 (by decide +kernel : decode cX5_addDayCoin 101 = .ok (.goto (-89), 3)) (by decide) ?_
  refine re_sub [1, 2, 3, 4, 5, 6, 0] (lv1 := [(0, .ref a0), (1, .int x1), (2, .int x2), (4, .int x4), (5, .int x5), (6, .int x6), (7, .int x5_)]) rfl ?_
  exact hK12 a0 x1 x2 x4 x5 x6 x5_ S3_ _ h
noncomputable def cX5_addDayCoin_65 (n : Nat) (K3 : Nat → Int32 → Int32 → Int32 → Int32 → Int32 → rvS → Option rvS) (K12 : Nat → Int32 → Int32 → Int32 → Int32 → Int32 → Int32 → rvS → Option rvS) (S : rvS) (a0 : Nat) (x1 : Int32) (x2 : Int32) (x4 : Int32) (x5 : Int32) (x6 : Int32) (x7 : Int32) (x8 : Int32) (x9 : Int64) : Option rvS :=
  if x7 < x4 then (
    cX5_addDayCoin_89 n K3 K12 S a0 x1 x2 x4 x5 x6 x7 x8 x9)
  else (
    (rv_gR S 4 a0 1).bind fun a2_ =>
    (rv_aL S a2_ (x8 - x4)).bind fun x4_ =>
    rv_lt (if x4_ < x9 then x9 else x4_) fun x6_ =>
    cX5_addDayCoin_89 n K3 K12 S a0 x1 x2 x4 x5 x6 x7 x8 x6_)
set_option maxRecDepth 20000 in
set_option maxHeartbeats 4000000 in
theorem eX5_addDayCoin_65 (n : Nat) (K3 : Nat → Int32 → Int32 → Int32 → Int32 → Int32 → rvS → Option rvS) (K12 : Nat → Int32 → Int32 → Int32 → Int32 → Int32 → Int32 → rvS → Option rvS) (hK3 : ∀ (a0 : Nat) (x1 : Int32) (x2 : Int32) (x4 : Int32) (x5 : Int32) (x6 : Int32) (S : rvS) (S' : rvS), K3 a0 x1 x2 x4 x5 x6 S = some S' → rv_Ev mX5_addDayCoin 1 3 [(0, .ref a0), (1, .int x1), (2, .int x2), (4, .int x4), (5, .int x5), (6, .int x6)] [] S none S') (hK12 : ∀ (a0 : Nat) (x1 : Int32) (x2 : Int32) (x4 : Int32) (x5 : Int32) (x6 : Int32) (x7 : Int32) (S : rvS) (S' : rvS), K12 a0 x1 x2 x4 x5 x6 x7 S = some S' → rv_Ev mX5_addDayCoin 1 12 [(0, .ref a0), (1, .int x1), (2, .int x2), (4, .int x4), (5, .int x5), (6, .int x6), (7, .int x7)] [] S none S') (S : rvS) (a0 : Nat) (x1 : Int32) (x2 : Int32) (x4 : Int32) (x5 : Int32) (x6 : Int32) (x7 : Int32) (x8 : Int32) (x9 : Int64) (S' : rvS) (h : cX5_addDayCoin_65 n K3 K12 S a0 x1 x2 x4 x5 x6 x7 x8 x9 = some S') : rv_Ev mX5_addDayCoin 1 65 [(0, .ref a0), (1, .int x1), (2, .int x2), (4, .int x4), (5, .int x5), (6, .int x6), (7, .int x7), (8, .int x8), (9, .long x9)] [] S none S' := by
  unfold cX5_addDayCoin_65 at h
  refine re_iload (pc := 65) 6 (by decide +kernel : decode cX5_addDayCoin 65 = .ok (.iload 7, 2)) rfl ?_
  refine re_iload (pc := 67) 3 (by decide +kernel : decode cX5_addDayCoin 67 = .ok (.iload 4, 2)) rfl ?_
  rcases rv_if_e h with ⟨g1_, h⟩ | ⟨g1_, h⟩
  · refine re_icmp_lt_t (pc := 69) 89 (by decide +kernel : decode cX5_addDayCoin 69 = .ok (.if_icmp .lt 20, 3)) (by decide) g1_ ?_
    exact eX5_addDayCoin_89 n K3 K12 hK3 hK12 S a0 x1 x2 x4 x5 x6 x7 x8 x9 _ h
  · refine re_icmp_lt_f (pc := 69) 89 (by decide +kernel : decode cX5_addDayCoin 69 = .ok (.if_icmp .lt 20, 3)) (by decide) g1_ ?_
    refine re_lload (pc := 72) 8 (by decide +kernel : decode cX5_addDayCoin 72 = .ok (.lload 9, 2)) rfl ?_
    refine re_aloadn (pc := 74) 0 (by decide +kernel : decode cX5_addDayCoin 74 = .ok (.aload_n 0, 1)) rfl ?_
    obtain ⟨a2_, g3_, h⟩ := rv_b_e h
    refine re_gR (pc := 75) g3_ lfX5_17 rfl (by decide +kernel : decode cX5_addDayCoin 75 = .ok (.getfield 17, 3)) ?_
    refine re_iload (pc := 78) 7 (by decide +kernel : decode cX5_addDayCoin 78 = .ok (.iload 8, 2)) rfl ?_
    refine re_iload (pc := 80) 3 (by decide +kernel : decode cX5_addDayCoin 80 = .ok (.iload 4, 2)) rfl ?_
    refine re_isub (pc := 82) (by decide +kernel : decode cX5_addDayCoin 82 = .ok (.isub, 1)) ?_
    obtain ⟨x4_, g5_, h⟩ := rv_b_e h
    refine re_aL (pc := 83) g5_ (by decide +kernel : decode cX5_addDayCoin 83 = .ok (.laload, 1)) ?_
    refine re_mmaxL (pc := 84) (rw4 65 (by decide +kernel) rfl) (by decide) (Nat.le_of_ble_eq_true rfl) (by decide +kernel : decode cX5_addDayCoin 84 = .ok (.invokestatic 50, 3)) ?_
    obtain ⟨x6_, g7_, h⟩ := rv_lt_e h
    refine re_nL (pc := 87) g7_ ?_
    refine re_lstore (pc := 87) (lv1 := [(9, .long x6_), (0, .ref a0), (1, .int x1), (2, .int x2), (4, .int x4), (5, .int x5), (6, .int x6), (7, .int x7), (8, .int x8)]) (by decide +kernel : decode cX5_addDayCoin 87 = .ok (.lstore 9, 2)) (by decide) rfl ?_
    refine re_sub [1, 2, 3, 4, 5, 6, 7, 8, 0] (lv1 := [(0, .ref a0), (1, .int x1), (2, .int x2), (4, .int x4), (5, .int x5), (6, .int x6), (7, .int x7), (8, .int x8), (9, .long x6_)]) rfl ?_
    exact eX5_addDayCoin_89 n K3 K12 hK3 hK12 S a0 x1 x2 x4 x5 x6 x7 x8 x6_ _ h
noncomputable def cX5_addDayCoin_12 (n : Nat) (K3 : Nat → Int32 → Int32 → Int32 → Int32 → Int32 → rvS → Option rvS) : Nat → rvS → Nat → Int32 → Int32 → Int32 → Int32 → Int32 → Int32 → Option rvS
  | 0, _, _, _, _, _, _, _, _ => none
  | k + 1, S, a0, x1, x2, x4, x5, x6, x7 =>
    if x7 < 0 then (
      rv_lt (x6 + (-1)) fun x2_ =>
      K3 a0 x1 x2 x4 x5 x2_ S)
    else (
      rv_lt ((x6 * (100 : Int32)) + x7) fun x4_ =>
      (rv_gR S 4 a0 1).bind fun a6_ =>
      (rv_aL S a6_ x4_).bind fun x8_ =>
      if x6 < x2 then (
        cX5_addDayCoin_65 n K3 (fun a0 x1 x2 x4 x5 x6 x7 S => cX5_addDayCoin_12 n K3 k S a0 x1 x2 x4 x5 x6 x7) S a0 x1 x2 x4 x5 x6 x7 x4_ x8_)
      else (
        (rv_gR S 4 a0 1).bind fun a11_ =>
        (rv_aL S a11_ (x4_ - (x2 * (100 : Int32)))).bind fun x13_ =>
        (fnX5_heavier n S x13_ x1).bind fun x16_ =>
        rv_lt (if x16_ < x8_ then x8_ else x16_) fun x18_ =>
        cX5_addDayCoin_65 n K3 (fun a0 x1 x2 x4 x5 x6 x7 S => cX5_addDayCoin_12 n K3 k S a0 x1 x2 x4 x5 x6 x7) S a0 x1 x2 x4 x5 x6 x7 x4_ x18_))
set_option maxRecDepth 20000 in
set_option maxHeartbeats 4000000 in
theorem eX5_addDayCoin_12 (n : Nat) (K3 : Nat → Int32 → Int32 → Int32 → Int32 → Int32 → rvS → Option rvS) (hK3 : ∀ (a0 : Nat) (x1 : Int32) (x2 : Int32) (x4 : Int32) (x5 : Int32) (x6 : Int32) (S : rvS) (S' : rvS), K3 a0 x1 x2 x4 x5 x6 S = some S' → rv_Ev mX5_addDayCoin 1 3 [(0, .ref a0), (1, .int x1), (2, .int x2), (4, .int x4), (5, .int x5), (6, .int x6)] [] S none S') : ∀ (k : Nat) (S : rvS) (a0 : Nat) (x1 : Int32) (x2 : Int32) (x4 : Int32) (x5 : Int32) (x6 : Int32) (x7 : Int32) (S' : rvS), cX5_addDayCoin_12 n K3 k S a0 x1 x2 x4 x5 x6 x7 = some S' → rv_Ev mX5_addDayCoin 1 12 [(0, .ref a0), (1, .int x1), (2, .int x2), (4, .int x4), (5, .int x5), (6, .int x6), (7, .int x7)] [] S none S' := by
  intro k
  induction k with
  | zero => intro S a0 x1 x2 x4 x5 x6 x7 S' h; exact absurd h (by simp [cX5_addDayCoin_12])
  | succ k ih =>
    intro S a0 x1 x2 x4 x5 x6 x7 S' h
    unfold cX5_addDayCoin_12 at h
    refine re_iload (pc := 12) 6 (by decide +kernel : decode cX5_addDayCoin 12 = .ok (.iload 7, 2)) rfl ?_
    rcases rv_if_e h with ⟨g1_, h⟩ | ⟨g1_, h⟩
    · refine re_if_lt_t (pc := 14) 104 (by decide +kernel : decode cX5_addDayCoin 14 = .ok (.ifCond .lt 90, 3)) (by decide) g1_ ?_
      obtain ⟨x2_, g3_, h⟩ := rv_lt_e h
      refine re_iinc (pc := 104) 5 x2_ (lv1 := [(6, .int x2_), (0, .ref a0), (1, .int x1), (2, .int x2), (4, .int x4), (5, .int x5), (7, .int x7)]) (by decide +kernel : decode cX5_addDayCoin 104 = .ok (.iinc 6 (-1), 3)) rfl g3_ (by decide) rfl ?_
      refine re_goto (pc := 107) 3 (by decide +kernel : decode cX5_addDayCoin 107 = .ok (.goto (-104), 3)) (by decide) ?_
      refine re_sub [1, 2, 3, 4, 5, 0] (lv1 := [(0, .ref a0), (1, .int x1), (2, .int x2), (4, .int x4), (5, .int x5), (6, .int x2_)]) rfl ?_
      exact hK3 a0 x1 x2 x4 x5 x2_ S _ h
    · refine re_if_lt_f (pc := 14) 104 (by decide +kernel : decode cX5_addDayCoin 14 = .ok (.ifCond .lt 90, 3)) (by decide) g1_ ?_
      refine re_iload (pc := 17) 5 (by decide +kernel : decode cX5_addDayCoin 17 = .ok (.iload 6, 2)) rfl ?_
      refine re_bipush (pc := 19) (100 : Int32) (by decide +kernel : decode cX5_addDayCoin 19 = .ok (.bipush 100, 2)) (by decide) ?_
      refine re_imul (pc := 21) (by decide +kernel : decode cX5_addDayCoin 21 = .ok (.imul, 1)) ?_
      refine re_iload (pc := 22) 6 (by decide +kernel : decode cX5_addDayCoin 22 = .ok (.iload 7, 2)) rfl ?_
      refine re_iadd (pc := 24) (by decide +kernel : decode cX5_addDayCoin 24 = .ok (.iadd, 1)) ?_
      obtain ⟨x4_, g5_, h⟩ := rv_lt_e h
      refine re_nI (pc := 25) g5_ ?_
      refine re_istore (pc := 25) (lv1 := [(8, .int x4_), (0, .ref a0), (1, .int x1), (2, .int x2), (4, .int x4), (5, .int x5), (6, .int x6), (7, .int x7)]) (by decide +kernel : decode cX5_addDayCoin 25 = .ok (.istore 8, 2)) (by decide) rfl ?_
      refine re_aloadn (pc := 27) 1 (by decide +kernel : decode cX5_addDayCoin 27 = .ok (.aload_n 0, 1)) rfl ?_
      obtain ⟨a6_, g7_, h⟩ := rv_b_e h
      refine re_gR (pc := 28) g7_ lfX5_17 rfl (by decide +kernel : decode cX5_addDayCoin 28 = .ok (.getfield 17, 3)) ?_
      refine re_iload (pc := 31) 0 (by decide +kernel : decode cX5_addDayCoin 31 = .ok (.iload 8, 2)) rfl ?_
      obtain ⟨x8_, g9_, h⟩ := rv_b_e h
      refine re_aL (pc := 33) g9_ (by decide +kernel : decode cX5_addDayCoin 33 = .ok (.laload, 1)) ?_
      refine re_lstore (pc := 34) (lv1 := [(9, .long x8_), (8, .int x4_), (0, .ref a0), (1, .int x1), (2, .int x2), (4, .int x4), (5, .int x5), (6, .int x6), (7, .int x7)]) (by decide +kernel : decode cX5_addDayCoin 34 = .ok (.lstore 9, 2)) (by decide) rfl ?_
      refine re_iload (pc := 36) 7 (by decide +kernel : decode cX5_addDayCoin 36 = .ok (.iload 6, 2)) rfl ?_
      refine re_iloadn (pc := 38) 4 (by decide +kernel : decode cX5_addDayCoin 38 = .ok (.iload_n 2, 1)) rfl ?_
      rcases rv_if_e h with ⟨g10_, h⟩ | ⟨g10_, h⟩
      · refine re_icmp_lt_t (pc := 39) 65 (by decide +kernel : decode cX5_addDayCoin 39 = .ok (.if_icmp .lt 26, 3)) (by decide) g10_ ?_
        refine re_sub [2, 3, 4, 5, 6, 7, 8, 1, 0] (lv1 := [(0, .ref a0), (1, .int x1), (2, .int x2), (4, .int x4), (5, .int x5), (6, .int x6), (7, .int x7), (8, .int x4_), (9, .long x8_)]) rfl ?_
        exact eX5_addDayCoin_65 n K3 (fun a0 x1 x2 x4 x5 x6 x7 S => cX5_addDayCoin_12 n K3 k S a0 x1 x2 x4 x5 x6 x7) hK3 (fun a0 x1 x2 x4 x5 x6 x7 S _ h => ih S a0 x1 x2 x4 x5 x6 x7 _ h) S a0 x1 x2 x4 x5 x6 x7 x4_ x8_ _ h
      · refine re_icmp_lt_f (pc := 39) 65 (by decide +kernel : decode cX5_addDayCoin 39 = .ok (.if_icmp .lt 26, 3)) (by decide) g10_ ?_
        refine re_lload (pc := 42) 0 (by decide +kernel : decode cX5_addDayCoin 42 = .ok (.lload 9, 2)) rfl ?_
        refine re_aloadn (pc := 44) 2 (by decide +kernel : decode cX5_addDayCoin 44 = .ok (.aload_n 0, 1)) rfl ?_
        obtain ⟨a11_, g12_, h⟩ := rv_b_e h
        refine re_gR (pc := 45) g12_ lfX5_17 rfl (by decide +kernel : decode cX5_addDayCoin 45 = .ok (.getfield 17, 3)) ?_
        refine re_iload (pc := 48) 1 (by decide +kernel : decode cX5_addDayCoin 48 = .ok (.iload 8, 2)) rfl ?_
        refine re_iloadn (pc := 50) 4 (by decide +kernel : decode cX5_addDayCoin 50 = .ok (.iload_n 2, 1)) rfl ?_
        refine re_bipush (pc := 51) (100 : Int32) (by decide +kernel : decode cX5_addDayCoin 51 = .ok (.bipush 100, 2)) (by decide) ?_
        refine re_imul (pc := 53) (by decide +kernel : decode cX5_addDayCoin 53 = .ok (.imul, 1)) ?_
        refine re_isub (pc := 54) (by decide +kernel : decode cX5_addDayCoin 54 = .ok (.isub, 1)) ?_
        obtain ⟨x13_, g14_, h⟩ := rv_b_e h
        refine re_aL (pc := 55) g14_ (by decide +kernel : decode cX5_addDayCoin 55 = .ok (.laload, 1)) ?_
        refine re_iloadn (pc := 56) 3 (by decide +kernel : decode cX5_addDayCoin 56 = .ok (.iload_n 1, 1)) rfl ?_
        obtain ⟨x16_, g17_, h⟩ := rv_b_e h
        have m15_ := metX5_heavier n S x13_ x1 _ g17_
        refine re_cS (pc := 57) [.long x13_, .int x1] m15_ (rv_okl.k ⟨rfl, rfl⟩) (rv_up.rf _ _) (by decide) (Nat.le_of_ble_eq_true rfl) lSX5_46 rfl (by decide +kernel : decode cX5_addDayCoin 57 = .ok (.invokestatic 46, 3)) ?_
        refine re_mmaxL (pc := 60) (rw4 65 (by decide +kernel) rfl) (by decide) (Nat.le_of_ble_eq_true rfl) (by decide +kernel : decode cX5_addDayCoin 60 = .ok (.invokestatic 50, 3)) ?_
        obtain ⟨x18_, g19_, h⟩ := rv_lt_e h
        refine re_nL (pc := 63) g19_ ?_
        refine re_lstore (pc := 63) (lv1 := [(9, .long x18_), (8, .int x4_), (0, .ref a0), (1, .int x1), (2, .int x2), (4, .int x4), (5, .int x5), (6, .int x6), (7, .int x7)]) (by decide +kernel : decode cX5_addDayCoin 63 = .ok (.lstore 9, 2)) (by decide) rfl ?_
        refine re_sub [2, 3, 4, 5, 6, 7, 8, 1, 0] (lv1 := [(0, .ref a0), (1, .int x1), (2, .int x2), (4, .int x4), (5, .int x5), (6, .int x6), (7, .int x7), (8, .int x4_), (9, .long x18_)]) rfl ?_
        exact eX5_addDayCoin_65 n K3 (fun a0 x1 x2 x4 x5 x6 x7 S => cX5_addDayCoin_12 n K3 k S a0 x1 x2 x4 x5 x6 x7) hK3 (fun a0 x1 x2 x4 x5 x6 x7 S _ h => ih S a0 x1 x2 x4 x5 x6 x7 _ h) S a0 x1 x2 x4 x5 x6 x7 x4_ x18_ _ h
noncomputable def cX5_addDayCoin_3 (n : Nat) : Nat → rvS → Nat → Int32 → Int32 → Int32 → Int32 → Int32 → Option rvS
  | 0, _, _, _, _, _, _, _ => none
  | k + 1, S, a0, x1, x2, x4, x5, x6 =>
    if x6 < 0 then (
      some S)
    else (
      cX5_addDayCoin_12 n (fun a0 x1 x2 x4 x5 x6 S => cX5_addDayCoin_3 n k S a0 x1 x2 x4 x5 x6) n S a0 x1 x2 x4 x5 x6 x5)
set_option maxRecDepth 20000 in
set_option maxHeartbeats 4000000 in
theorem eX5_addDayCoin_3 (n : Nat) : ∀ (k : Nat) (S : rvS) (a0 : Nat) (x1 : Int32) (x2 : Int32) (x4 : Int32) (x5 : Int32) (x6 : Int32) (S' : rvS), cX5_addDayCoin_3 n k S a0 x1 x2 x4 x5 x6 = some S' → rv_Ev mX5_addDayCoin 1 3 [(0, .ref a0), (1, .int x1), (2, .int x2), (4, .int x4), (5, .int x5), (6, .int x6)] [] S none S' := by
  intro k
  induction k with
  | zero => intro S a0 x1 x2 x4 x5 x6 S' h; exact absurd h (by simp [cX5_addDayCoin_3])
  | succ k ih =>
    intro S a0 x1 x2 x4 x5 x6 S' h
    unfold cX5_addDayCoin_3 at h
    refine re_iload (pc := 3) 5 (by decide +kernel : decode cX5_addDayCoin 3 = .ok (.iload 6, 2)) rfl ?_
    rcases rv_if_e h with ⟨g1_, h⟩ | ⟨g1_, h⟩
    · refine re_if_lt_t (pc := 5) 110 (by decide +kernel : decode cX5_addDayCoin 5 = .ok (.ifCond .lt 105, 3)) (by decide) g1_ ?_
      cases h
      exact re_vret (by decide +kernel : decode cX5_addDayCoin 110 = .ok (.return_, 1))
    · refine re_if_lt_f (pc := 5) 110 (by decide +kernel : decode cX5_addDayCoin 5 = .ok (.ifCond .lt 105, 3)) (by decide) g1_ ?_
      refine re_iload (pc := 8) 4 (by decide +kernel : decode cX5_addDayCoin 8 = .ok (.iload 5, 2)) rfl ?_
      refine re_istore (pc := 10) (lv1 := [(7, .int x5), (0, .ref a0), (1, .int x1), (2, .int x2), (4, .int x4), (5, .int x5), (6, .int x6)]) (by decide +kernel : decode cX5_addDayCoin 10 = .ok (.istore 7, 2)) (by decide) rfl ?_
      refine re_sub [1, 2, 3, 4, 5, 6, 0] (lv1 := [(0, .ref a0), (1, .int x1), (2, .int x2), (4, .int x4), (5, .int x5), (6, .int x6), (7, .int x5)]) rfl ?_
      exact eX5_addDayCoin_12 n (fun a0 x1 x2 x4 x5 x6 S => cX5_addDayCoin_3 n k S a0 x1 x2 x4 x5 x6) (fun a0 x1 x2 x4 x5 x6 S _ h => ih S a0 x1 x2 x4 x5 x6 _ h) n S a0 x1 x2 x4 x5 x6 x5 _ h
noncomputable def fnX5_addDayCoin (n : Nat) (S : rvS) (a0 : Nat) (x1 : Int32) (x2 : Int32) (x3 : Int32) (x4 : Int32) (x5 : Int32) : Option rvS :=
  cX5_addDayCoin_3 n n S a0 x1 x2 x4 x5 x3
set_option maxRecDepth 20000 in
set_option maxHeartbeats 4000000 in
theorem eX5_addDayCoin_in (n : Nat) (S : rvS) (a0 : Nat) (x1 : Int32) (x2 : Int32) (x3 : Int32) (x4 : Int32) (x5 : Int32) (S' : rvS) (h : fnX5_addDayCoin n S a0 x1 x2 x3 x4 x5 = some S') : rv_Ev mX5_addDayCoin 1 0 [(0, .ref a0), (1, .int x1), (2, .int x2), (3, .int x3), (4, .int x4), (5, .int x5)] [] S none S' := by
  unfold fnX5_addDayCoin at h
  refine re_iloadn (pc := 0) 3 (by decide +kernel : decode cX5_addDayCoin 0 = .ok (.iload_n 3, 1)) rfl ?_
  refine re_istore (pc := 1) (lv1 := [(6, .int x3), (0, .ref a0), (1, .int x1), (2, .int x2), (3, .int x3), (4, .int x4), (5, .int x5)]) (by decide +kernel : decode cX5_addDayCoin 1 = .ok (.istore 6, 2)) (by decide) rfl ?_
  refine re_sub [1, 2, 3, 5, 6, 0] (lv1 := [(0, .ref a0), (1, .int x1), (2, .int x2), (4, .int x4), (5, .int x5), (6, .int x3)]) rfl ?_
  exact eX5_addDayCoin_3 n n S a0 x1 x2 x4 x5 x3 _ h
theorem metX5_addDayCoin (n : Nat) (S : rvS) (a0 : Nat) (x1 : Int32) (x2 : Int32) (x3 : Int32) (x4 : Int32) (x5 : Int32) (S' : rvS) (h : fnX5_addDayCoin n S a0 x1 x2 x3 x4 x5 = some S') : rv_Met yX5_addDayCoin mX5_addDayCoin 1 [.ref a0, .int x1, .int x2, .int x3, .int x4, .int x5] S none S' := rv_Met.of ⟨by decide +kernel, rfl, (fun z => by first | rfl | cases z), rfl⟩ (Nat.le_of_ble_eq_true rfl) rfl (eX5_addDayCoin_in n S a0 x1 x2 x3 x4 x5 S' h)
noncomputable def cX5_chooseForTwoDays_141 (n : Nat) (K46 : Nat → Nat → Int64 → Int32 → Int64 → Int32 → Int32 → rvS → Option (Int32 × rvS)) (S : rvS) (a0 : Nat) (a1 : Nat) (x2 : Int64) (x4 : Int32) (x5 : Int64) (x7 : Int32) (x8 : Int32) (t0 : Nat) (t1 : Int32) (t2 : Int32) (t3 : Int32) (t4 : Int32) : Option (Int32 × rvS) :=
  (rv_ck S 4 t0).bind fun u1_ =>
  (fnX5_addDayCoin n S t0 t1 t2 t3 t4 x7).bind fun S4_ =>
  rv_lt (x8 + (1)) fun x7_ =>
  K46 a0 a1 x2 x4 x5 x7 x7_ S4_
set_option maxRecDepth 20000 in
set_option maxHeartbeats 4000000 in
theorem eX5_chooseForTwoDays_141 (n : Nat) (K46 : Nat → Nat → Int64 → Int32 → Int64 → Int32 → Int32 → rvS → Option (Int32 × rvS)) (hK46 : ∀ (a0 : Nat) (a1 : Nat) (x2 : Int64) (x4 : Int32) (x5 : Int64) (x7 : Int32) (x8 : Int32) (S : rvS) (r : Int32) (S' : rvS), K46 a0 a1 x2 x4 x5 x7 x8 S = some (r, S') → rv_Ev mX5_chooseForTwoDays 2 46 [(0, .ref a0), (1, .ref a1), (2, .long x2), (4, .int x4), (5, .long x5), (7, .int x7), (8, .int x8)] [] S (some (.int r)) S') (S : rvS) (a0 : Nat) (a1 : Nat) (x2 : Int64) (x4 : Int32) (x5 : Int64) (x7 : Int32) (x8 : Int32) (t0 : Nat) (t1 : Int32) (t2 : Int32) (t3 : Int32) (t4 : Int32) (r : Int32) (S' : rvS) (h : cX5_chooseForTwoDays_141 n K46 S a0 a1 x2 x4 x5 x7 x8 t0 t1 t2 t3 t4 = some (r, S')) : rv_Ev mX5_chooseForTwoDays 2 141 [(0, .ref a0), (1, .ref a1), (2, .long x2), (4, .int x4), (5, .long x5), (7, .int x7), (8, .int x8)] [.int t4, .int t3, .int t2, .int t1, .ref t0] S (some (.int r)) S' := by
  unfold cX5_chooseForTwoDays_141 at h
  refine re_iload (pc := 141) 5 (by decide +kernel : decode cX5_chooseForTwoDays 141 = .ok (.iload 7, 2)) rfl ?_
  obtain ⟨u1_, g2_, h⟩ := rv_b_e h
  obtain ⟨S4_, g5_, h⟩ := rv_b_e h
  have m3_ := metX5_addDayCoin n S t0 t1 t2 t3 t4 x7 _ g5_
  have z6_ : rv_same S S4_ := m3_.sh rfl
  refine re_cV (pc := 143) [.int t1, .int t2, .int t3, .int t4, .int x7] m3_ (rv_okl.k z6_) (rv_up.sh z6_) (by decide) (rv_ck_e g2_) ⟨by decide, rfl⟩ (Nat.le_of_ble_eq_true rfl) lVX5_67 rfl (by decide +kernel : decode cX5_chooseForTwoDays 143 = .ok (.invokevirtual 67, 3)) ?_
  obtain ⟨x7_, g8_, h⟩ := rv_lt_e h
  refine re_iinc (pc := 146) 6 x7_ (lv1 := [(8, .int x7_), (0, .ref a0), (1, .ref a1), (2, .long x2), (4, .int x4), (5, .long x5), (7, .int x7)]) (by decide +kernel : decode cX5_chooseForTwoDays 146 = .ok (.iinc 8 1, 3)) rfl g8_ (by decide) rfl ?_
  refine re_goto (pc := 149) 46 (by decide +kernel : decode cX5_chooseForTwoDays 149 = .ok (.goto (-103), 3)) (by decide) ?_
  refine re_sub [1, 2, 3, 4, 5, 6, 0] (lv1 := [(0, .ref a0), (1, .ref a1), (2, .long x2), (4, .int x4), (5, .long x5), (7, .int x7), (8, .int x7_)]) rfl ?_
  exact hK46 a0 a1 x2 x4 x5 x7 x7_ S4_ _ _ h
noncomputable def cX5_chooseForTwoDays_122 (n : Nat) (K46 : Nat → Nat → Int64 → Int32 → Int64 → Int32 → Int32 → rvS → Option (Int32 × rvS)) (S : rvS) (a0 : Nat) (a1 : Nat) (x2 : Int64) (x4 : Int32) (x5 : Int64) (x7 : Int32) (x8 : Int32) (x10 : Int32) (t0 : Nat) (t1 : Int32) (t2 : Int32) : Option (Int32 × rvS) :=
  if x10 = 0 then (
    cX5_chooseForTwoDays_141 n K46 S a0 a1 x2 x4 x5 x7 x8 t0 t1 t2 x4 (100 : Int32))
  else (
    (rv_gR S 5 a1 2).bind fun a2_ =>
    (rv_aI S 0 a2_ x8).bind fun x4_ =>
    cX5_chooseForTwoDays_141 n K46 S a0 a1 x2 x4 x5 x7 x8 t0 t1 t2 x4 x4_)
set_option maxRecDepth 20000 in
set_option maxHeartbeats 4000000 in
theorem eX5_chooseForTwoDays_122 (n : Nat) (K46 : Nat → Nat → Int64 → Int32 → Int64 → Int32 → Int32 → rvS → Option (Int32 × rvS)) (hK46 : ∀ (a0 : Nat) (a1 : Nat) (x2 : Int64) (x4 : Int32) (x5 : Int64) (x7 : Int32) (x8 : Int32) (S : rvS) (r : Int32) (S' : rvS), K46 a0 a1 x2 x4 x5 x7 x8 S = some (r, S') → rv_Ev mX5_chooseForTwoDays 2 46 [(0, .ref a0), (1, .ref a1), (2, .long x2), (4, .int x4), (5, .long x5), (7, .int x7), (8, .int x8)] [] S (some (.int r)) S') (S : rvS) (a0 : Nat) (a1 : Nat) (x2 : Int64) (x4 : Int32) (x5 : Int64) (x7 : Int32) (x8 : Int32) (x10 : Int32) (t0 : Nat) (t1 : Int32) (t2 : Int32) (r : Int32) (S' : rvS) (h : cX5_chooseForTwoDays_122 n K46 S a0 a1 x2 x4 x5 x7 x8 x10 t0 t1 t2 = some (r, S')) : rv_Ev mX5_chooseForTwoDays 2 122 [(0, .ref a0), (1, .ref a1), (2, .long x2), (4, .int x4), (5, .long x5), (7, .int x7), (8, .int x8), (10, .int x10)] [.int t2, .int t1, .ref t0] S (some (.int r)) S' := by
  unfold cX5_chooseForTwoDays_122 at h
  refine re_iload (pc := 122) 3 (by decide +kernel : decode cX5_chooseForTwoDays 122 = .ok (.iload 4, 2)) rfl ?_
  refine re_iload (pc := 124) 7 (by decide +kernel : decode cX5_chooseForTwoDays 124 = .ok (.iload 10, 2)) rfl ?_
  rcases rv_if_e h with ⟨g1_, h⟩ | ⟨g1_, h⟩
  · refine re_if_eq_t (pc := 126) 139 (by decide +kernel : decode cX5_chooseForTwoDays 126 = .ok (.ifCond .eq 13, 3)) (by decide) g1_ ?_
    refine re_bipush (pc := 139) (100 : Int32) (by decide +kernel : decode cX5_chooseForTwoDays 139 = .ok (.bipush 100, 2)) (by decide) ?_
    refine re_sub [0, 1, 2, 3, 4, 5, 6] (lv1 := [(0, .ref a0), (1, .ref a1), (2, .long x2), (4, .int x4), (5, .long x5), (7, .int x7), (8, .int x8)]) rfl ?_
    exact eX5_chooseForTwoDays_141 n K46 hK46 S a0 a1 x2 x4 x5 x7 x8 t0 t1 t2 x4 (100 : Int32) _ _ h
  · refine re_if_eq_f (pc := 126) 139 (by decide +kernel : decode cX5_chooseForTwoDays 126 = .ok (.ifCond .eq 13, 3)) (by decide) g1_ ?_
    refine re_aloadn (pc := 129) 1 (by decide +kernel : decode cX5_chooseForTwoDays 129 = .ok (.aload_n 1, 1)) rfl ?_
    obtain ⟨a2_, g3_, h⟩ := rv_b_e h
    refine re_gR (pc := 130) g3_ lfX5_32 rfl (by decide +kernel : decode cX5_chooseForTwoDays 130 = .ok (.getfield 32, 3)) ?_
    refine re_iload (pc := 133) 6 (by decide +kernel : decode cX5_chooseForTwoDays 133 = .ok (.iload 8, 2)) rfl ?_
    obtain ⟨x4_, g5_, h⟩ := rv_b_e h
    refine re_aI (pc := 135) g5_ (by decide +kernel : decode cX5_chooseForTwoDays 135 = .ok (.iaload, 1)) ?_
    refine re_goto (pc := 136) 141 (by decide +kernel : decode cX5_chooseForTwoDays 136 = .ok (.goto 5, 3)) (by decide) ?_
    refine re_sub [0, 1, 2, 3, 4, 5, 6] (lv1 := [(0, .ref a0), (1, .ref a1), (2, .long x2), (4, .int x4), (5, .long x5), (7, .int x7), (8, .int x8)]) rfl ?_
    exact eX5_chooseForTwoDays_141 n K46 hK46 S a0 a1 x2 x4 x5 x7 x8 t0 t1 t2 x4 x4_ _ _ h
noncomputable def cX5_chooseForTwoDays_102 (n : Nat) (K46 : Nat → Nat → Int64 → Int32 → Int64 → Int32 → Int32 → rvS → Option (Int32 × rvS)) (S : rvS) (a0 : Nat) (a1 : Nat) (x2 : Int64) (x4 : Int32) (x5 : Int64) (x7 : Int32) (x8 : Int32) (x9 : Int32) (x10 : Int32) : Option (Int32 × rvS) :=
  if x9 = 0 then (
    cX5_chooseForTwoDays_122 n K46 S a0 a1 x2 x4 x5 x7 x8 x10 a0 x8 (100 : Int32))
  else (
    (rv_gR S 5 a1 2).bind fun a2_ =>
    (rv_aI S 0 a2_ x8).bind fun x4_ =>
    cX5_chooseForTwoDays_122 n K46 S a0 a1 x2 x4 x5 x7 x8 x10 a0 x8 x4_)
set_option maxRecDepth 20000 in
set_option maxHeartbeats 4000000 in
theorem eX5_chooseForTwoDays_102 (n : Nat) (K46 : Nat → Nat → Int64 → Int32 → Int64 → Int32 → Int32 → rvS → Option (Int32 × rvS)) (hK46 : ∀ (a0 : Nat) (a1 : Nat) (x2 : Int64) (x4 : Int32) (x5 : Int64) (x7 : Int32) (x8 : Int32) (S : rvS) (r : Int32) (S' : rvS), K46 a0 a1 x2 x4 x5 x7 x8 S = some (r, S') → rv_Ev mX5_chooseForTwoDays 2 46 [(0, .ref a0), (1, .ref a1), (2, .long x2), (4, .int x4), (5, .long x5), (7, .int x7), (8, .int x8)] [] S (some (.int r)) S') (S : rvS) (a0 : Nat) (a1 : Nat) (x2 : Int64) (x4 : Int32) (x5 : Int64) (x7 : Int32) (x8 : Int32) (x9 : Int32) (x10 : Int32) (r : Int32) (S' : rvS) (h : cX5_chooseForTwoDays_102 n K46 S a0 a1 x2 x4 x5 x7 x8 x9 x10 = some (r, S')) : rv_Ev mX5_chooseForTwoDays 2 102 [(0, .ref a0), (1, .ref a1), (2, .long x2), (4, .int x4), (5, .long x5), (7, .int x7), (8, .int x8), (9, .int x9), (10, .int x10)] [] S (some (.int r)) S' := by
  unfold cX5_chooseForTwoDays_102 at h
  refine re_aloadn (pc := 102) 0 (by decide +kernel : decode cX5_chooseForTwoDays 102 = .ok (.aload_n 0, 1)) rfl ?_
  refine re_iload (pc := 103) 6 (by decide +kernel : decode cX5_chooseForTwoDays 103 = .ok (.iload 8, 2)) rfl ?_
  refine re_iload (pc := 105) 7 (by decide +kernel : decode cX5_chooseForTwoDays 105 = .ok (.iload 9, 2)) rfl ?_
  rcases rv_if_e h with ⟨g1_, h⟩ | ⟨g1_, h⟩
  · refine re_if_eq_t (pc := 107) 120 (by decide +kernel : decode cX5_chooseForTwoDays 107 = .ok (.ifCond .eq 13, 3)) (by decide) g1_ ?_
    refine re_bipush (pc := 120) (100 : Int32) (by decide +kernel : decode cX5_chooseForTwoDays 120 = .ok (.bipush 100, 2)) (by decide) ?_
    refine re_sub [0, 1, 2, 3, 4, 5, 6, 8] (lv1 := [(0, .ref a0), (1, .ref a1), (2, .long x2), (4, .int x4), (5, .long x5), (7, .int x7), (8, .int x8), (10, .int x10)]) rfl ?_
    exact eX5_chooseForTwoDays_122 n K46 hK46 S a0 a1 x2 x4 x5 x7 x8 x10 a0 x8 (100 : Int32) _ _ h
  · refine re_if_eq_f (pc := 107) 120 (by decide +kernel : decode cX5_chooseForTwoDays 107 = .ok (.ifCond .eq 13, 3)) (by decide) g1_ ?_
    refine re_aloadn (pc := 110) 1 (by decide +kernel : decode cX5_chooseForTwoDays 110 = .ok (.aload_n 1, 1)) rfl ?_
    obtain ⟨a2_, g3_, h⟩ := rv_b_e h
    refine re_gR (pc := 111) g3_ lfX5_32 rfl (by decide +kernel : decode cX5_chooseForTwoDays 111 = .ok (.getfield 32, 3)) ?_
    refine re_iload (pc := 114) 6 (by decide +kernel : decode cX5_chooseForTwoDays 114 = .ok (.iload 8, 2)) rfl ?_
    obtain ⟨x4_, g5_, h⟩ := rv_b_e h
    refine re_aI (pc := 116) g5_ (by decide +kernel : decode cX5_chooseForTwoDays 116 = .ok (.iaload, 1)) ?_
    refine re_goto (pc := 117) 122 (by decide +kernel : decode cX5_chooseForTwoDays 117 = .ok (.goto 5, 3)) (by decide) ?_
    refine re_sub [0, 1, 2, 3, 4, 5, 6, 8] (lv1 := [(0, .ref a0), (1, .ref a1), (2, .long x2), (4, .int x4), (5, .long x5), (7, .int x7), (8, .int x8), (10, .int x10)]) rfl ?_
    exact eX5_chooseForTwoDays_122 n K46 hK46 S a0 a1 x2 x4 x5 x7 x8 x10 a0 x8 x4_ _ _ h
noncomputable def cX5_chooseForTwoDays_90 (n : Nat) (K46 : Nat → Nat → Int64 → Int32 → Int64 → Int32 → Int32 → rvS → Option (Int32 × rvS)) (S : rvS) (a0 : Nat) (a1 : Nat) (x2 : Int64) (x4 : Int32) (x5 : Int64) (x7 : Int32) (x8 : Int32) (x9 : Int32) (t0 : Int32) : Option (Int32 × rvS) :=
  if x9 = 0 then (
    if t0 = 0 then (
      rv_lt (x8 + (1)) fun x3_ =>
      K46 a0 a1 x2 x4 x5 x7 x3_ S)
    else (
      cX5_chooseForTwoDays_102 n K46 S a0 a1 x2 x4 x5 x7 x8 x9 t0))
  else (
    cX5_chooseForTwoDays_102 n K46 S a0 a1 x2 x4 x5 x7 x8 x9 t0)
set_option maxRecDepth 20000 in
set_option maxHeartbeats 4000000 in
theorem eX5_chooseForTwoDays_90 (n : Nat) (K46 : Nat → Nat → Int64 → Int32 → Int64 → Int32 → Int32 → rvS → Option (Int32 × rvS)) (hK46 : ∀ (a0 : Nat) (a1 : Nat) (x2 : Int64) (x4 : Int32) (x5 : Int64) (x7 : Int32) (x8 : Int32) (S : rvS) (r : Int32) (S' : rvS), K46 a0 a1 x2 x4 x5 x7 x8 S = some (r, S') → rv_Ev mX5_chooseForTwoDays 2 46 [(0, .ref a0), (1, .ref a1), (2, .long x2), (4, .int x4), (5, .long x5), (7, .int x7), (8, .int x8)] [] S (some (.int r)) S') (S : rvS) (a0 : Nat) (a1 : Nat) (x2 : Int64) (x4 : Int32) (x5 : Int64) (x7 : Int32) (x8 : Int32) (x9 : Int32) (t0 : Int32) (r : Int32) (S' : rvS) (h : cX5_chooseForTwoDays_90 n K46 S a0 a1 x2 x4 x5 x7 x8 x9 t0 = some (r, S')) : rv_Ev mX5_chooseForTwoDays 2 90 [(0, .ref a0), (1, .ref a1), (2, .long x2), (4, .int x4), (5, .long x5), (7, .int x7), (8, .int x8), (9, .int x9)] [.int t0] S (some (.int r)) S' := by
  unfold cX5_chooseForTwoDays_90 at h
  refine re_istore (pc := 90) (lv1 := [(10, .int t0), (0, .ref a0), (1, .ref a1), (2, .long x2), (4, .int x4), (5, .long x5), (7, .int x7), (8, .int x8), (9, .int x9)]) (by decide +kernel : decode cX5_chooseForTwoDays 90 = .ok (.istore 10, 2)) (by decide) rfl ?_
  refine re_iload (pc := 92) 8 (by decide +kernel : decode cX5_chooseForTwoDays 92 = .ok (.iload 9, 2)) rfl ?_
  rcases rv_if_e h with ⟨g1_, h⟩ | ⟨g1_, h⟩
  · refine re_if_ne_f (pc := 94) 102 (by decide +kernel : decode cX5_chooseForTwoDays 94 = .ok (.ifCond .ne 8, 3)) (by decide) g1_ ?_
    refine re_iload (pc := 97) 0 (by decide +kernel : decode cX5_chooseForTwoDays 97 = .ok (.iload 10, 2)) rfl ?_
    rcases rv_if_e h with ⟨g2_, h⟩ | ⟨g2_, h⟩
    · refine re_if_eq_t (pc := 99) 146 (by decide +kernel : decode cX5_chooseForTwoDays 99 = .ok (.ifCond .eq 47, 3)) (by decide) g2_ ?_
      obtain ⟨x3_, g4_, h⟩ := rv_lt_e h
      refine re_iinc (pc := 146) 7 x3_ (lv1 := [(8, .int x3_), (10, .int t0), (0, .ref a0), (1, .ref a1), (2, .long x2), (4, .int x4), (5, .long x5), (7, .int x7), (9, .int x9)]) (by decide +kernel : decode cX5_chooseForTwoDays 146 = .ok (.iinc 8 1, 3)) rfl g4_ (by decide) rfl ?_
      refine re_goto (pc := 149) 46 (by decide +kernel : decode cX5_chooseForTwoDays 149 = .ok (.goto (-103), 3)) (by decide) ?_
      refine re_sub [2, 3, 4, 5, 6, 7, 0] (lv1 := [(0, .ref a0), (1, .ref a1), (2, .long x2), (4, .int x4), (5, .long x5), (7, .int x7), (8, .int x3_)]) rfl ?_
      exact hK46 a0 a1 x2 x4 x5 x7 x3_ S _ _ h
    · refine re_if_eq_f (pc := 99) 146 (by decide +kernel : decode cX5_chooseForTwoDays 99 = .ok (.ifCond .eq 47, 3)) (by decide) g2_ ?_
      refine re_sub [1, 2, 3, 4, 5, 6, 7, 8, 0] (lv1 := [(0, .ref a0), (1, .ref a1), (2, .long x2), (4, .int x4), (5, .long x5), (7, .int x7), (8, .int x8), (9, .int x9), (10, .int t0)]) rfl ?_
      exact eX5_chooseForTwoDays_102 n K46 hK46 S a0 a1 x2 x4 x5 x7 x8 x9 t0 _ _ h
  · refine re_if_ne_t (pc := 94) 102 (by decide +kernel : decode cX5_chooseForTwoDays 94 = .ok (.ifCond .ne 8, 3)) (by decide) g1_ ?_
    refine re_sub [1, 2, 3, 4, 5, 6, 7, 8, 0] (lv1 := [(0, .ref a0), (1, .ref a1), (2, .long x2), (4, .int x4), (5, .long x5), (7, .int x7), (8, .int x8), (9, .int x9), (10, .int t0)]) rfl ?_
    exact eX5_chooseForTwoDays_102 n K46 hK46 S a0 a1 x2 x4 x5 x7 x8 x9 t0 _ _ h
noncomputable def cX5_chooseForTwoDays_71 (n : Nat) (K46 : Nat → Nat → Int64 → Int32 → Int64 → Int32 → Int32 → rvS → Option (Int32 × rvS)) (S : rvS) (a0 : Nat) (a1 : Nat) (x2 : Int64) (x4 : Int32) (x5 : Int64) (x7 : Int32) (x8 : Int32) (t0 : Int32) : Option (Int32 × rvS) :=
  if (lg_cmp (((x5.toUInt64 >>> (x8.toInt64.toUInt64 &&& Int64.toUInt64 63)).toInt64) &&& (1 : Int64)) (0 : Int64)) = 0 then (
    cX5_chooseForTwoDays_90 n K46 S a0 a1 x2 x4 x5 x7 x8 t0 (0 : Int32))
  else (
    cX5_chooseForTwoDays_90 n K46 S a0 a1 x2 x4 x5 x7 x8 t0 (1 : Int32))
set_option maxRecDepth 20000 in
set_option maxHeartbeats 4000000 in
theorem eX5_chooseForTwoDays_71 (n : Nat) (K46 : Nat → Nat → Int64 → Int32 → Int64 → Int32 → Int32 → rvS → Option (Int32 × rvS)) (hK46 : ∀ (a0 : Nat) (a1 : Nat) (x2 : Int64) (x4 : Int32) (x5 : Int64) (x7 : Int32) (x8 : Int32) (S : rvS) (r : Int32) (S' : rvS), K46 a0 a1 x2 x4 x5 x7 x8 S = some (r, S') → rv_Ev mX5_chooseForTwoDays 2 46 [(0, .ref a0), (1, .ref a1), (2, .long x2), (4, .int x4), (5, .long x5), (7, .int x7), (8, .int x8)] [] S (some (.int r)) S') (S : rvS) (a0 : Nat) (a1 : Nat) (x2 : Int64) (x4 : Int32) (x5 : Int64) (x7 : Int32) (x8 : Int32) (t0 : Int32) (r : Int32) (S' : rvS) (h : cX5_chooseForTwoDays_71 n K46 S a0 a1 x2 x4 x5 x7 x8 t0 = some (r, S')) : rv_Ev mX5_chooseForTwoDays 2 71 [(0, .ref a0), (1, .ref a1), (2, .long x2), (4, .int x4), (5, .long x5), (7, .int x7), (8, .int x8)] [.int t0] S (some (.int r)) S' := by
  unfold cX5_chooseForTwoDays_71 at h
  refine re_istore (pc := 71) (lv1 := [(9, .int t0), (0, .ref a0), (1, .ref a1), (2, .long x2), (4, .int x4), (5, .long x5), (7, .int x7), (8, .int x8)]) (by decide +kernel : decode cX5_chooseForTwoDays 71 = .ok (.istore 9, 2)) (by decide) rfl ?_
  refine re_lload (pc := 73) 5 (by decide +kernel : decode cX5_chooseForTwoDays 73 = .ok (.lload 5, 2)) rfl ?_
  refine re_iload (pc := 75) 7 (by decide +kernel : decode cX5_chooseForTwoDays 75 = .ok (.iload 8, 2)) rfl ?_
  refine re_lushr (pc := 77) (by decide +kernel : decode cX5_chooseForTwoDays 77 = .ok (.lushr, 1)) ?_
  refine re_lconst (pc := 78) (1 : Int64) (by decide +kernel : decode cX5_chooseForTwoDays 78 = .ok (.lconst 1, 1)) (by decide) ?_
  refine re_land (pc := 79) (by decide +kernel : decode cX5_chooseForTwoDays 79 = .ok (.land, 1)) ?_
  refine re_lconst (pc := 80) (0 : Int64) (by decide +kernel : decode cX5_chooseForTwoDays 80 = .ok (.lconst 0, 1)) (by decide) ?_
  refine re_lcmp (pc := 81) (by decide +kernel : decode cX5_chooseForTwoDays 81 = .ok (.lcmp, 1)) ?_
  rcases rv_if_e h with ⟨g1_, h⟩ | ⟨g1_, h⟩
  · refine re_if_eq_t (pc := 82) 89 (by decide +kernel : decode cX5_chooseForTwoDays 82 = .ok (.ifCond .eq 7, 3)) (by decide) g1_ ?_
    refine re_iconst (pc := 89) (0 : Int32) (by decide +kernel : decode cX5_chooseForTwoDays 89 = .ok (.iconst 0, 1)) (by decide) ?_
    refine re_sub [1, 2, 3, 4, 5, 6, 7, 0] (lv1 := [(0, .ref a0), (1, .ref a1), (2, .long x2), (4, .int x4), (5, .long x5), (7, .int x7), (8, .int x8), (9, .int t0)]) rfl ?_
    exact eX5_chooseForTwoDays_90 n K46 hK46 S a0 a1 x2 x4 x5 x7 x8 t0 (0 : Int32) _ _ h
  · refine re_if_eq_f (pc := 82) 89 (by decide +kernel : decode cX5_chooseForTwoDays 82 = .ok (.ifCond .eq 7, 3)) (by decide) g1_ ?_
    refine re_iconst (pc := 85) (1 : Int32) (by decide +kernel : decode cX5_chooseForTwoDays 85 = .ok (.iconst 1, 1)) (by decide) ?_
    refine re_goto (pc := 86) 90 (by decide +kernel : decode cX5_chooseForTwoDays 86 = .ok (.goto 4, 3)) (by decide) ?_
    refine re_sub [1, 2, 3, 4, 5, 6, 7, 0] (lv1 := [(0, .ref a0), (1, .ref a1), (2, .long x2), (4, .int x4), (5, .long x5), (7, .int x7), (8, .int x8), (9, .int t0)]) rfl ?_
    exact eX5_chooseForTwoDays_90 n K46 hK46 S a0 a1 x2 x4 x5 x7 x8 t0 (1 : Int32) _ _ h
noncomputable def cX5_chooseForTwoDays_152 (n : Nat) (S : rvS) (a0 : Nat) (x4 : Int32) (x7 : Int32) : Option (Int32 × rvS) :=
  (rv_gR S 4 a0 1).bind fun a1_ =>
  (rv_aL S a1_ ((x4 * (100 : Int32)) + x7)).bind fun x3_ =>
  (rv_ck S 4 a0).bind fun u5_ =>
  rv_bp (fnX5_take n S a0 x3_) fun x8_ S9_ =>
  some (x8_, S9_)
set_option maxRecDepth 20000 in
set_option maxHeartbeats 4000000 in
theorem eX5_chooseForTwoDays_152 (n : Nat) (S : rvS) (a0 : Nat) (x4 : Int32) (x7 : Int32) (r : Int32) (S' : rvS) (h : cX5_chooseForTwoDays_152 n S a0 x4 x7 = some (r, S')) : rv_Ev mX5_chooseForTwoDays 2 152 [(0, .ref a0), (4, .int x4), (7, .int x7)] [] S (some (.int r)) S' := by
  unfold cX5_chooseForTwoDays_152 at h
  refine re_aloadn (pc := 152) 0 (by decide +kernel : decode cX5_chooseForTwoDays 152 = .ok (.aload_n 0, 1)) rfl ?_
  refine re_aloadn (pc := 153) 0 (by decide +kernel : decode cX5_chooseForTwoDays 153 = .ok (.aload_n 0, 1)) rfl ?_
  obtain ⟨a1_, g2_, h⟩ := rv_b_e h
  refine re_gR (pc := 154) g2_ lfX5_17 rfl (by decide +kernel : decode cX5_chooseForTwoDays 154 = .ok (.getfield 17, 3)) ?_
  refine re_iload (pc := 157) 1 (by decide +kernel : decode cX5_chooseForTwoDays 157 = .ok (.iload 4, 2)) rfl ?_
  refine re_bipush (pc := 159) (100 : Int32) (by decide +kernel : decode cX5_chooseForTwoDays 159 = .ok (.bipush 100, 2)) (by decide) ?_
  refine re_imul (pc := 161) (by decide +kernel : decode cX5_chooseForTwoDays 161 = .ok (.imul, 1)) ?_
  refine re_iload (pc := 162) 2 (by decide +kernel : decode cX5_chooseForTwoDays 162 = .ok (.iload 7, 2)) rfl ?_
  refine re_iadd (pc := 164) (by decide +kernel : decode cX5_chooseForTwoDays 164 = .ok (.iadd, 1)) ?_
  obtain ⟨x3_, g4_, h⟩ := rv_b_e h
  refine re_aL (pc := 165) g4_ (by decide +kernel : decode cX5_chooseForTwoDays 165 = .ok (.laload, 1)) ?_
  obtain ⟨u5_, g6_, h⟩ := rv_b_e h
  obtain ⟨x8_, S9_, g10_, h⟩ := rv_bp_e h
  have m7_ := metX5_take n S a0 x3_ _ _ g10_
  have z11_ : rv_same S S9_ := m7_.sh rfl
  refine re_cV (pc := 166) [.long x3_] m7_ (rv_okl.k z11_) (rv_up.sh z11_) (by decide) (rv_ck_e g6_) ⟨by decide, rfl⟩ (Nat.le_of_ble_eq_true rfl) lVX5_40 rfl (by decide +kernel : decode cX5_chooseForTwoDays 166 = .ok (.invokevirtual 40, 3)) ?_
  cases h
  exact re_iret (fun ty hty => by cases hty; rfl) (by decide +kernel : decode cX5_chooseForTwoDays 169 = .ok (.ireturn, 1))
noncomputable def cX5_chooseForTwoDays_46 (n : Nat) : Nat → rvS → Nat → Nat → Int64 → Int32 → Int64 → Int32 → Int32 → Option (Int32 × rvS)
  | 0, _, _, _, _, _, _, _, _ => none
  | k + 1, S, a0, a1, x2, x4, x5, x7, x8 =>
    (rv_gI S 5 a1 0).bind fun x1_ =>
    if x1_ ≤ x8 then (
      cX5_chooseForTwoDays_152 n S a0 x4 x7)
    else (
      if (lg_cmp (((x2.toUInt64 >>> (x8.toInt64.toUInt64 &&& Int64.toUInt64 63)).toInt64) &&& (1 : Int64)) (0 : Int64)) = 0 then (
        cX5_chooseForTwoDays_71 n (fun a0 a1 x2 x4 x5 x7 x8 S => cX5_chooseForTwoDays_46 n k S a0 a1 x2 x4 x5 x7 x8) S a0 a1 x2 x4 x5 x7 x8 (0 : Int32))
      else (
        cX5_chooseForTwoDays_71 n (fun a0 a1 x2 x4 x5 x7 x8 S => cX5_chooseForTwoDays_46 n k S a0 a1 x2 x4 x5 x7 x8) S a0 a1 x2 x4 x5 x7 x8 (1 : Int32)))
set_option maxRecDepth 20000 in
set_option maxHeartbeats 4000000 in
theorem eX5_chooseForTwoDays_46 (n : Nat) : ∀ (k : Nat) (S : rvS) (a0 : Nat) (a1 : Nat) (x2 : Int64) (x4 : Int32) (x5 : Int64) (x7 : Int32) (x8 : Int32) (r : Int32) (S' : rvS), cX5_chooseForTwoDays_46 n k S a0 a1 x2 x4 x5 x7 x8 = some (r, S') → rv_Ev mX5_chooseForTwoDays 2 46 [(0, .ref a0), (1, .ref a1), (2, .long x2), (4, .int x4), (5, .long x5), (7, .int x7), (8, .int x8)] [] S (some (.int r)) S' := by
  intro k
  induction k with
  | zero => intro S a0 a1 x2 x4 x5 x7 x8 r S' h; exact absurd h (by simp [cX5_chooseForTwoDays_46])
  | succ k ih =>
    intro S a0 a1 x2 x4 x5 x7 x8 r S' h
    unfold cX5_chooseForTwoDays_46 at h
    refine re_iload (pc := 46) 6 (by decide +kernel : decode cX5_chooseForTwoDays 46 = .ok (.iload 8, 2)) rfl ?_
    refine re_aloadn (pc := 48) 1 (by decide +kernel : decode cX5_chooseForTwoDays 48 = .ok (.aload_n 1, 1)) rfl ?_
    obtain ⟨x1_, g2_, h⟩ := rv_b_e h
    refine re_gI (pc := 49) g2_ lfX5_28 rfl (by decide +kernel : decode cX5_chooseForTwoDays 49 = .ok (.getfield 28, 3)) ?_
    rcases rv_if_e h with ⟨g3_, h⟩ | ⟨g3_, h⟩
    · refine re_icmp_ge_t (pc := 52) 152 (by decide +kernel : decode cX5_chooseForTwoDays 52 = .ok (.if_icmp .ge 100, 3)) (by decide) g3_ ?_
      refine re_sub [0, 3, 5] (lv1 := [(0, .ref a0), (4, .int x4), (7, .int x7)]) rfl ?_
      exact eX5_chooseForTwoDays_152 n S a0 x4 x7 _ _ h
    · refine re_icmp_ge_f (pc := 52) 152 (by decide +kernel : decode cX5_chooseForTwoDays 52 = .ok (.if_icmp .ge 100, 3)) (by decide) g3_ ?_
      refine re_lloadn (pc := 55) 2 (by decide +kernel : decode cX5_chooseForTwoDays 55 = .ok (.lload_n 2, 1)) rfl ?_
      refine re_iload (pc := 56) 6 (by decide +kernel : decode cX5_chooseForTwoDays 56 = .ok (.iload 8, 2)) rfl ?_
      refine re_lushr (pc := 58) (by decide +kernel : decode cX5_chooseForTwoDays 58 = .ok (.lushr, 1)) ?_
      refine re_lconst (pc := 59) (1 : Int64) (by decide +kernel : decode cX5_chooseForTwoDays 59 = .ok (.lconst 1, 1)) (by decide) ?_
      refine re_land (pc := 60) (by decide +kernel : decode cX5_chooseForTwoDays 60 = .ok (.land, 1)) ?_
      refine re_lconst (pc := 61) (0 : Int64) (by decide +kernel : decode cX5_chooseForTwoDays 61 = .ok (.lconst 0, 1)) (by decide) ?_
      refine re_lcmp (pc := 62) (by decide +kernel : decode cX5_chooseForTwoDays 62 = .ok (.lcmp, 1)) ?_
      rcases rv_if_e h with ⟨g4_, h⟩ | ⟨g4_, h⟩
      · refine re_if_eq_t (pc := 63) 70 (by decide +kernel : decode cX5_chooseForTwoDays 63 = .ok (.ifCond .eq 7, 3)) (by decide) g4_ ?_
        refine re_iconst (pc := 70) (0 : Int32) (by decide +kernel : decode cX5_chooseForTwoDays 70 = .ok (.iconst 0, 1)) (by decide) ?_
        exact eX5_chooseForTwoDays_71 n (fun a0 a1 x2 x4 x5 x7 x8 S => cX5_chooseForTwoDays_46 n k S a0 a1 x2 x4 x5 x7 x8) (fun a0 a1 x2 x4 x5 x7 x8 S _ _ h => ih S a0 a1 x2 x4 x5 x7 x8 _ _ h) S a0 a1 x2 x4 x5 x7 x8 (0 : Int32) _ _ h
      · refine re_if_eq_f (pc := 63) 70 (by decide +kernel : decode cX5_chooseForTwoDays 63 = .ok (.ifCond .eq 7, 3)) (by decide) g4_ ?_
        refine re_iconst (pc := 66) (1 : Int32) (by decide +kernel : decode cX5_chooseForTwoDays 66 = .ok (.iconst 1, 1)) (by decide) ?_
        refine re_goto (pc := 67) 71 (by decide +kernel : decode cX5_chooseForTwoDays 67 = .ok (.goto 4, 3)) (by decide) ?_
        exact eX5_chooseForTwoDays_71 n (fun a0 a1 x2 x4 x5 x7 x8 S => cX5_chooseForTwoDays_46 n k S a0 a1 x2 x4 x5 x7 x8) (fun a0 a1 x2 x4 x5 x7 x8 S _ _ h => ih S a0 a1 x2 x4 x5 x7 x8 _ _ h) S a0 a1 x2 x4 x5 x7 x8 (1 : Int32) _ _ h
noncomputable def fnX5_chooseForTwoDays (n : Nat) (S : rvS) (a0 : Nat) (a1 : Nat) (x2 : Int64) (x4 : Int32) (x5 : Int64) (x7 : Int32) : Option (Int32 × rvS) :=
  if x4 < (1 : Int32) then (
    some ((-1 : Int32), S))
  else (
    if (99 : Int32) < x4 then (
      some ((-1 : Int32), S))
    else (
      if x7 < (1 : Int32) then (
        some ((-1 : Int32), S))
      else (
        if x7 ≤ (99 : Int32) then (
          (rv_gR S 4 a0 1).bind fun a5_ =>
          (fnX5_startAt n S a5_ ((x4 * (100 : Int32)) + x7)).bind fun S8_ =>
          cX5_chooseForTwoDays_46 n n S8_ a0 a1 x2 x4 x5 x7 (0 : Int32))
        else (
          some ((-1 : Int32), S)))))
set_option maxRecDepth 20000 in
set_option maxHeartbeats 4000000 in
theorem eX5_chooseForTwoDays_in (n : Nat) (S : rvS) (a0 : Nat) (a1 : Nat) (x2 : Int64) (x4 : Int32) (x5 : Int64) (x7 : Int32) (r : Int32) (S' : rvS) (h : fnX5_chooseForTwoDays n S a0 a1 x2 x4 x5 x7 = some (r, S')) : rv_Ev mX5_chooseForTwoDays 2 0 [(0, .ref a0), (1, .ref a1), (2, .long x2), (4, .int x4), (5, .long x5), (7, .int x7)] [] S (some (.int r)) S' := by
  unfold fnX5_chooseForTwoDays at h
  refine re_iload (pc := 0) 3 (by decide +kernel : decode cX5_chooseForTwoDays 0 = .ok (.iload 4, 2)) rfl ?_
  refine re_iconst (pc := 2) (1 : Int32) (by decide +kernel : decode cX5_chooseForTwoDays 2 = .ok (.iconst 1, 1)) (by decide) ?_
  rcases rv_if_e h with ⟨g1_, h⟩ | ⟨g1_, h⟩
  · refine re_icmp_lt_t (pc := 3) 26 (by decide +kernel : decode cX5_chooseForTwoDays 3 = .ok (.if_icmp .lt 23, 3)) (by decide) g1_ ?_
    refine re_iconst (pc := 26) (-1 : Int32) (by decide +kernel : decode cX5_chooseForTwoDays 26 = .ok (.iconst (-1), 1)) (by decide) ?_
    cases h
    exact re_iret (fun ty hty => by cases hty; rfl) (by decide +kernel : decode cX5_chooseForTwoDays 27 = .ok (.ireturn, 1))
  · refine re_icmp_lt_f (pc := 3) 26 (by decide +kernel : decode cX5_chooseForTwoDays 3 = .ok (.if_icmp .lt 23, 3)) (by decide) g1_ ?_
    refine re_iload (pc := 6) 3 (by decide +kernel : decode cX5_chooseForTwoDays 6 = .ok (.iload 4, 2)) rfl ?_
    refine re_bipush (pc := 8) (99 : Int32) (by decide +kernel : decode cX5_chooseForTwoDays 8 = .ok (.bipush 99, 2)) (by decide) ?_
    rcases rv_if_e h with ⟨g2_, h⟩ | ⟨g2_, h⟩
    · refine re_icmp_gt_t (pc := 10) 26 (by decide +kernel : decode cX5_chooseForTwoDays 10 = .ok (.if_icmp .gt 16, 3)) (by decide) g2_ ?_
      refine re_iconst (pc := 26) (-1 : Int32) (by decide +kernel : decode cX5_chooseForTwoDays 26 = .ok (.iconst (-1), 1)) (by decide) ?_
      cases h
      exact re_iret (fun ty hty => by cases hty; rfl) (by decide +kernel : decode cX5_chooseForTwoDays 27 = .ok (.ireturn, 1))
    · refine re_icmp_gt_f (pc := 10) 26 (by decide +kernel : decode cX5_chooseForTwoDays 10 = .ok (.if_icmp .gt 16, 3)) (by decide) g2_ ?_
      refine re_iload (pc := 13) 5 (by decide +kernel : decode cX5_chooseForTwoDays 13 = .ok (.iload 7, 2)) rfl ?_
      refine re_iconst (pc := 15) (1 : Int32) (by decide +kernel : decode cX5_chooseForTwoDays 15 = .ok (.iconst 1, 1)) (by decide) ?_
      rcases rv_if_e h with ⟨g3_, h⟩ | ⟨g3_, h⟩
      · refine re_icmp_lt_t (pc := 16) 26 (by decide +kernel : decode cX5_chooseForTwoDays 16 = .ok (.if_icmp .lt 10, 3)) (by decide) g3_ ?_
        refine re_iconst (pc := 26) (-1 : Int32) (by decide +kernel : decode cX5_chooseForTwoDays 26 = .ok (.iconst (-1), 1)) (by decide) ?_
        cases h
        exact re_iret (fun ty hty => by cases hty; rfl) (by decide +kernel : decode cX5_chooseForTwoDays 27 = .ok (.ireturn, 1))
      · refine re_icmp_lt_f (pc := 16) 26 (by decide +kernel : decode cX5_chooseForTwoDays 16 = .ok (.if_icmp .lt 10, 3)) (by decide) g3_ ?_
        refine re_iload (pc := 19) 5 (by decide +kernel : decode cX5_chooseForTwoDays 19 = .ok (.iload 7, 2)) rfl ?_
        refine re_bipush (pc := 21) (99 : Int32) (by decide +kernel : decode cX5_chooseForTwoDays 21 = .ok (.bipush 99, 2)) (by decide) ?_
        rcases rv_if_e h with ⟨g4_, h⟩ | ⟨g4_, h⟩
        · refine re_icmp_le_t (pc := 23) 28 (by decide +kernel : decode cX5_chooseForTwoDays 23 = .ok (.if_icmp .le 5, 3)) (by decide) g4_ ?_
          refine re_aloadn (pc := 28) 0 (by decide +kernel : decode cX5_chooseForTwoDays 28 = .ok (.aload_n 0, 1)) rfl ?_
          obtain ⟨a5_, g6_, h⟩ := rv_b_e h
          refine re_gR (pc := 29) g6_ lfX5_17 rfl (by decide +kernel : decode cX5_chooseForTwoDays 29 = .ok (.getfield 17, 3)) ?_
          refine re_iload (pc := 32) 3 (by decide +kernel : decode cX5_chooseForTwoDays 32 = .ok (.iload 4, 2)) rfl ?_
          refine re_bipush (pc := 34) (100 : Int32) (by decide +kernel : decode cX5_chooseForTwoDays 34 = .ok (.bipush 100, 2)) (by decide) ?_
          refine re_imul (pc := 36) (by decide +kernel : decode cX5_chooseForTwoDays 36 = .ok (.imul, 1)) ?_
          refine re_iload (pc := 37) 5 (by decide +kernel : decode cX5_chooseForTwoDays 37 = .ok (.iload 7, 2)) rfl ?_
          refine re_iadd (pc := 39) (by decide +kernel : decode cX5_chooseForTwoDays 39 = .ok (.iadd, 1)) ?_
          obtain ⟨S8_, g9_, h⟩ := rv_b_e h
          have m7_ := metX5_startAt n S a5_ ((x4 * (100 : Int32)) + x7) _ g9_
          have z10_ : rv_same S S8_ := m7_.sh rfl
          refine re_cS (pc := 40) [.ref a5_, .int ((x4 * (100 : Int32)) + x7)] m7_ (rv_okl.k z10_) (rv_up.sh z10_) (by decide) (Nat.le_of_ble_eq_true rfl) lSX5_24 rfl (by decide +kernel : decode cX5_chooseForTwoDays 40 = .ok (.invokestatic 24, 3)) ?_
          refine re_iconst (pc := 43) (0 : Int32) (by decide +kernel : decode cX5_chooseForTwoDays 43 = .ok (.iconst 0, 1)) (by decide) ?_
          refine re_istore (pc := 44) (lv1 := [(8, .int (0 : Int32)), (0, .ref a0), (1, .ref a1), (2, .long x2), (4, .int x4), (5, .long x5), (7, .int x7)]) (by decide +kernel : decode cX5_chooseForTwoDays 44 = .ok (.istore 8, 2)) (by decide) rfl ?_
          refine re_sub [1, 2, 3, 4, 5, 6, 0] (lv1 := [(0, .ref a0), (1, .ref a1), (2, .long x2), (4, .int x4), (5, .long x5), (7, .int x7), (8, .int (0 : Int32))]) rfl ?_
          exact eX5_chooseForTwoDays_46 n n S8_ a0 a1 x2 x4 x5 x7 (0 : Int32) _ _ h
        · refine re_icmp_le_f (pc := 23) 28 (by decide +kernel : decode cX5_chooseForTwoDays 23 = .ok (.if_icmp .le 5, 3)) (by decide) g4_ ?_
          refine re_iconst (pc := 26) (-1 : Int32) (by decide +kernel : decode cX5_chooseForTwoDays 26 = .ok (.iconst (-1), 1)) (by decide) ?_
          cases h
          exact re_iret (fun ty hty => by cases hty; rfl) (by decide +kernel : decode cX5_chooseForTwoDays 27 = .ok (.ireturn, 1))
theorem metX5_chooseForTwoDays (n : Nat) (S : rvS) (a0 : Nat) (a1 : Nat) (x2 : Int64) (x4 : Int32) (x5 : Int64) (x7 : Int32) (r : Int32) (S' : rvS) (h : fnX5_chooseForTwoDays n S a0 a1 x2 x4 x5 x7 = some (r, S')) : rv_Met yX5_chooseForTwoDays mX5_chooseForTwoDays 2 [.ref a0, .ref a1, .long x2, .int x4, .long x5, .int x7] S (some (.int r)) S' := rv_Met.of ⟨by decide +kernel, rfl, (fun z => by first | rfl | cases z), rfl⟩ (Nat.le_of_ble_eq_true rfl) rfl (eX5_chooseForTwoDays_in n S a0 a1 x2 x4 x5 x7 r S' h)
noncomputable def fnX6_empty (n : Nat) (S : rvS) (a0 : Nat) : Option rvS :=
  (rv_pI S 5 a0 0 (0 : Int32)).bind fun S1_ =>
  (rv_pI S1_ 5 a0 1 (3 : Int32)).bind fun S3_ =>
  some S3_
set_option maxRecDepth 20000 in
set_option maxHeartbeats 4000000 in
theorem eX6_empty_in (n : Nat) (S : rvS) (a0 : Nat) (S' : rvS) (h : fnX6_empty n S a0 = some S') : rv_Ev mX6_empty 0 0 [(0, .ref a0)] [] S none S' := by
  unfold fnX6_empty at h
  refine re_aloadn (pc := 0) 0 (by decide +kernel : decode cX6_empty 0 = .ok (.aload_n 0, 1)) rfl ?_
  refine re_iconst (pc := 1) (0 : Int32) (by decide +kernel : decode cX6_empty 1 = .ok (.iconst 0, 1)) (by decide) ?_
  obtain ⟨S1_, g2_, h⟩ := rv_b_e h
  refine re_pI (pc := 2) g2_ lfX6_25 rfl rfl rfl rfl (by decide +kernel : decode cX6_empty 2 = .ok (.putfield 25, 3)) ?_
  refine re_aloadn (pc := 5) 0 (by decide +kernel : decode cX6_empty 5 = .ok (.aload_n 0, 1)) rfl ?_
  refine re_iconst (pc := 6) (3 : Int32) (by decide +kernel : decode cX6_empty 6 = .ok (.iconst 3, 1)) (by decide) ?_
  obtain ⟨S3_, g4_, h⟩ := rv_b_e h
  refine re_pI (pc := 7) g4_ lfX6_11 rfl rfl rfl rfl (by decide +kernel : decode cX6_empty 7 = .ok (.putfield 11, 3)) ?_
  cases h
  exact re_vret (by decide +kernel : decode cX6_empty 10 = .ok (.return_, 1))
theorem metX6_empty (n : Nat) (S : rvS) (a0 : Nat) (S' : rvS) (h : fnX6_empty n S a0 = some S') : rv_Met yX6_empty mX6_empty 0 [.ref a0] S none S' := rv_Met.of ⟨by decide +kernel, rfl, (fun z => by first | rfl | cases z), rfl⟩ (Nat.le_of_ble_eq_true rfl) rfl (eX6_empty_in n S a0 S' h)
noncomputable def fnX6_add (n : Nat) (S : rvS) (a0 : Nat) (x1 : Int32) (x2 : Int32) : Option (Int32 × rvS) :=
  (rv_gI S 5 a0 0).bind fun x1_ =>
  if x1_ < (40 : Int32) then (
    (rv_gI S 5 a0 0).bind fun x4_ =>
    (rv_gI S 5 a0 0).bind fun x6_ =>
    (rv_pI S 5 a0 0 (x6_ + (1 : Int32))).bind fun S8_ =>
    (rv_gR S8_ 5 a0 2).bind fun a10_ =>
    (rv_uI S8_ a10_ x4_ x1).bind fun S12_ =>
    (rv_gR S12_ 5 a0 3).bind fun a14_ =>
    (rv_uI S12_ a14_ x4_ x2).bind fun S16_ =>
    (rv_gR S16_ 5 a0 4).bind fun a18_ =>
    (rv_uI S16_ a18_ x4_ (0 : Int32)).bind fun S20_ =>
    some (x4_, S20_))
  else (
    some ((-1 : Int32), S))
set_option maxRecDepth 20000 in
set_option maxHeartbeats 4000000 in
theorem eX6_add_in (n : Nat) (S : rvS) (a0 : Nat) (x1 : Int32) (x2 : Int32) (r : Int32) (S' : rvS) (h : fnX6_add n S a0 x1 x2 = some (r, S')) : rv_Ev mX6_add 0 0 [(0, .ref a0), (1, .int x1), (2, .int x2)] [] S (some (.int r)) S' := by
  unfold fnX6_add at h
  refine re_aloadn (pc := 0) 0 (by decide +kernel : decode cX6_add 0 = .ok (.aload_n 0, 1)) rfl ?_
  obtain ⟨x1_, g2_, h⟩ := rv_b_e h
  refine re_gI (pc := 1) g2_ lfX6_25 rfl (by decide +kernel : decode cX6_add 1 = .ok (.getfield 25, 3)) ?_
  refine re_bipush (pc := 4) (40 : Int32) (by decide +kernel : decode cX6_add 4 = .ok (.bipush 40, 2)) (by decide) ?_
  rcases rv_if_e h with ⟨g3_, h⟩ | ⟨g3_, h⟩
  · refine re_icmp_lt_t (pc := 6) 11 (by decide +kernel : decode cX6_add 6 = .ok (.if_icmp .lt 5, 3)) (by decide) g3_ ?_
    refine re_aloadn (pc := 11) 0 (by decide +kernel : decode cX6_add 11 = .ok (.aload_n 0, 1)) rfl ?_
    obtain ⟨x4_, g5_, h⟩ := rv_b_e h
    refine re_gI (pc := 12) g5_ lfX6_25 rfl (by decide +kernel : decode cX6_add 12 = .ok (.getfield 25, 3)) ?_
    refine re_istoren (pc := 15) (lv1 := [(3, .int x4_), (0, .ref a0), (1, .int x1), (2, .int x2)]) (by decide +kernel : decode cX6_add 15 = .ok (.istore_n 3, 1)) rfl (by decide) rfl ?_
    refine re_aloadn (pc := 16) 1 (by decide +kernel : decode cX6_add 16 = .ok (.aload_n 0, 1)) rfl ?_
    refine re_dup (pc := 17) (by decide +kernel : decode cX6_add 17 = .ok (.dup, 1)) rfl ?_
    obtain ⟨x6_, g7_, h⟩ := rv_b_e h
    refine re_gI (pc := 18) g7_ lfX6_25 rfl (by decide +kernel : decode cX6_add 18 = .ok (.getfield 25, 3)) ?_
    refine re_iconst (pc := 21) (1 : Int32) (by decide +kernel : decode cX6_add 21 = .ok (.iconst 1, 1)) (by decide) ?_
    refine re_iadd (pc := 22) (by decide +kernel : decode cX6_add 22 = .ok (.iadd, 1)) ?_
    obtain ⟨S8_, g9_, h⟩ := rv_b_e h
    refine re_pI (pc := 23) g9_ lfX6_25 rfl rfl rfl rfl (by decide +kernel : decode cX6_add 23 = .ok (.putfield 25, 3)) ?_
    refine re_aloadn (pc := 26) 1 (by decide +kernel : decode cX6_add 26 = .ok (.aload_n 0, 1)) rfl ?_
    obtain ⟨a10_, g11_, h⟩ := rv_b_e h
    refine re_gR (pc := 27) g11_ lfX6_15 rfl (by decide +kernel : decode cX6_add 27 = .ok (.getfield 15, 3)) ?_
    refine re_iloadn (pc := 30) 0 (by decide +kernel : decode cX6_add 30 = .ok (.iload_n 3, 1)) rfl ?_
    refine re_iloadn (pc := 31) 2 (by decide +kernel : decode cX6_add 31 = .ok (.iload_n 1, 1)) rfl ?_
    obtain ⟨S12_, g13_, h⟩ := rv_b_e h
    refine re_uI (pc := 32) g13_ (by decide +kernel : decode cX6_add 32 = .ok (.iastore, 1)) ?_
    refine re_aloadn (pc := 33) 1 (by decide +kernel : decode cX6_add 33 = .ok (.aload_n 0, 1)) rfl ?_
    obtain ⟨a14_, g15_, h⟩ := rv_b_e h
    refine re_gR (pc := 34) g15_ lfX6_19 rfl (by decide +kernel : decode cX6_add 34 = .ok (.getfield 19, 3)) ?_
    refine re_iloadn (pc := 37) 0 (by decide +kernel : decode cX6_add 37 = .ok (.iload_n 3, 1)) rfl ?_
    refine re_iloadn (pc := 38) 3 (by decide +kernel : decode cX6_add 38 = .ok (.iload_n 2, 1)) rfl ?_
    obtain ⟨S16_, g17_, h⟩ := rv_b_e h
    refine re_uI (pc := 39) g17_ (by decide +kernel : decode cX6_add 39 = .ok (.iastore, 1)) ?_
    refine re_aloadn (pc := 40) 1 (by decide +kernel : decode cX6_add 40 = .ok (.aload_n 0, 1)) rfl ?_
    obtain ⟨a18_, g19_, h⟩ := rv_b_e h
    refine re_gR (pc := 41) g19_ lfX6_22 rfl (by decide +kernel : decode cX6_add 41 = .ok (.getfield 22, 3)) ?_
    refine re_iloadn (pc := 44) 0 (by decide +kernel : decode cX6_add 44 = .ok (.iload_n 3, 1)) rfl ?_
    refine re_iconst (pc := 45) (0 : Int32) (by decide +kernel : decode cX6_add 45 = .ok (.iconst 0, 1)) (by decide) ?_
    obtain ⟨S20_, g21_, h⟩ := rv_b_e h
    refine re_uI (pc := 46) g21_ (by decide +kernel : decode cX6_add 46 = .ok (.iastore, 1)) ?_
    refine re_iloadn (pc := 47) 0 (by decide +kernel : decode cX6_add 47 = .ok (.iload_n 3, 1)) rfl ?_
    cases h
    exact re_iret (fun ty hty => by cases hty; rfl) (by decide +kernel : decode cX6_add 48 = .ok (.ireturn, 1))
  · refine re_icmp_lt_f (pc := 6) 11 (by decide +kernel : decode cX6_add 6 = .ok (.if_icmp .lt 5, 3)) (by decide) g3_ ?_
    refine re_iconst (pc := 9) (-1 : Int32) (by decide +kernel : decode cX6_add 9 = .ok (.iconst (-1), 1)) (by decide) ?_
    cases h
    exact re_iret (fun ty hty => by cases hty; rfl) (by decide +kernel : decode cX6_add 10 = .ok (.ireturn, 1))
theorem metX6_add (n : Nat) (S : rvS) (a0 : Nat) (x1 : Int32) (x2 : Int32) (r : Int32) (S' : rvS) (h : fnX6_add n S a0 x1 x2 = some (r, S')) : rv_Met yX6_add mX6_add 0 [.ref a0, .int x1, .int x2] S (some (.int r)) S' := rv_Met.of ⟨by decide +kernel, rfl, (fun z => by first | rfl | cases z), rfl⟩ (Nat.le_of_ble_eq_true rfl) rfl (eX6_add_in n S a0 x1 x2 r S' h)
noncomputable def fnX6_scratch (n : Nat) (S : rvS) (a0 : Nat) (x1 : Int32) (x2 : Int32) (x3 : Int32) : Option rvS :=
  (rv_ck S 5 a0).bind fun u1_ =>
  (fnX6_has n S a0 x1).bind fun x4_ =>
  if x4_ = 0 then (
    some S)
  else (
    (rv_gR S 5 a0 4).bind fun a7_ =>
    (rv_aI S 0 a7_ x1).bind fun x9_ =>
    (rv_uI S a7_ x1 (x9_ ||| ((x3 + (1 : Int32)) <<< (((5 : Int32) * x2) &&& 31)))).bind fun S11_ =>
    some S11_)
set_option maxRecDepth 20000 in
set_option maxHeartbeats 4000000 in
theorem eX6_scratch_in (n : Nat) (S : rvS) (a0 : Nat) (x1 : Int32) (x2 : Int32) (x3 : Int32) (S' : rvS) (h : fnX6_scratch n S a0 x1 x2 x3 = some S') : rv_Ev mX6_scratch 1 0 [(0, .ref a0), (1, .int x1), (2, .int x2), (3, .int x3)] [] S none S' := by
  unfold fnX6_scratch at h
  refine re_aloadn (pc := 0) 0 (by decide +kernel : decode cX6_scratch 0 = .ok (.aload_n 0, 1)) rfl ?_
  refine re_iloadn (pc := 1) 1 (by decide +kernel : decode cX6_scratch 1 = .ok (.iload_n 1, 1)) rfl ?_
  obtain ⟨u1_, g2_, h⟩ := rv_b_e h
  obtain ⟨x4_, g5_, h⟩ := rv_b_e h
  have m3_ := metX6_has n S a0 x1 _ g5_
  refine re_cV (pc := 2) [.int x1] m3_ (rv_okl.k ⟨rfl, rfl⟩) (rv_up.rf _ _) (by decide) (rv_ck_e g2_) ⟨by decide, rfl⟩ (Nat.le_of_ble_eq_true rfl) lVX6_28 rfl (by decide +kernel : decode cX6_scratch 2 = .ok (.invokevirtual 28, 3)) ?_
  rcases rv_if_e h with ⟨g6_, h⟩ | ⟨g6_, h⟩
  · refine re_if_eq_t (pc := 5) 24 (by decide +kernel : decode cX6_scratch 5 = .ok (.ifCond .eq 19, 3)) (by decide) g6_ ?_
    cases h
    exact re_vret (by decide +kernel : decode cX6_scratch 24 = .ok (.return_, 1))
  · refine re_if_eq_f (pc := 5) 24 (by decide +kernel : decode cX6_scratch 5 = .ok (.ifCond .eq 19, 3)) (by decide) g6_ ?_
    refine re_aloadn (pc := 8) 0 (by decide +kernel : decode cX6_scratch 8 = .ok (.aload_n 0, 1)) rfl ?_
    obtain ⟨a7_, g8_, h⟩ := rv_b_e h
    refine re_gR (pc := 9) g8_ lfX6_22 rfl (by decide +kernel : decode cX6_scratch 9 = .ok (.getfield 22, 3)) ?_
    refine re_iloadn (pc := 12) 1 (by decide +kernel : decode cX6_scratch 12 = .ok (.iload_n 1, 1)) rfl ?_
    refine re_dup2 (pc := 13) (by decide +kernel : decode cX6_scratch 13 = .ok (.dup2, 1)) rfl rfl ?_
    obtain ⟨x9_, g10_, h⟩ := rv_b_e h
    refine re_aI (pc := 14) g10_ (by decide +kernel : decode cX6_scratch 14 = .ok (.iaload, 1)) ?_
    refine re_iloadn (pc := 15) 3 (by decide +kernel : decode cX6_scratch 15 = .ok (.iload_n 3, 1)) rfl ?_
    refine re_iconst (pc := 16) (1 : Int32) (by decide +kernel : decode cX6_scratch 16 = .ok (.iconst 1, 1)) (by decide) ?_
    refine re_iadd (pc := 17) (by decide +kernel : decode cX6_scratch 17 = .ok (.iadd, 1)) ?_
    refine re_iconst (pc := 18) (5 : Int32) (by decide +kernel : decode cX6_scratch 18 = .ok (.iconst 5, 1)) (by decide) ?_
    refine re_iloadn (pc := 19) 2 (by decide +kernel : decode cX6_scratch 19 = .ok (.iload_n 2, 1)) rfl ?_
    refine re_imul (pc := 20) (by decide +kernel : decode cX6_scratch 20 = .ok (.imul, 1)) ?_
    refine re_ishl (pc := 21) (by decide +kernel : decode cX6_scratch 21 = .ok (.ishl, 1)) ?_
    refine re_ior (pc := 22) (by decide +kernel : decode cX6_scratch 22 = .ok (.ior, 1)) ?_
    obtain ⟨S11_, g12_, h⟩ := rv_b_e h
    refine re_uI (pc := 23) g12_ (by decide +kernel : decode cX6_scratch 23 = .ok (.iastore, 1)) ?_
    cases h
    exact re_vret (by decide +kernel : decode cX6_scratch 24 = .ok (.return_, 1))
theorem metX6_scratch (n : Nat) (S : rvS) (a0 : Nat) (x1 : Int32) (x2 : Int32) (x3 : Int32) (S' : rvS) (h : fnX6_scratch n S a0 x1 x2 x3 = some S') : rv_Met yX6_scratch mX6_scratch 1 [.ref a0, .int x1, .int x2, .int x3] S none S' := rv_Met.of ⟨by decide +kernel, rfl, (fun z => by first | rfl | cases z), rfl⟩ (Nat.le_of_ble_eq_true rfl) rfl (eX6_scratch_in n S a0 x1 x2 x3 S' h)
noncomputable def cX6_bears_2 (n : Nat) (S : rvS) : Nat → Nat → Int32 → Int32 → Int32 → Option Int32
  | 0, _, _, _, _ => none
  | k + 1, a0, x1, x2, x3 =>
    if (3 : Int32) ≤ x3 then (
      some (0 : Int32))
    else (
      (rv_ck S 5 a0).bind fun u2_ =>
      (fnX6_nameAt n S a0 x1 x3).bind fun x5_ =>
      if x5_ = x2 then (
        some (1 : Int32))
      else (
        rv_lt (x3 + (1)) fun x8_ =>
        cX6_bears_2 n S k a0 x1 x2 x8_))
set_option maxRecDepth 20000 in
set_option maxHeartbeats 4000000 in
theorem eX6_bears_2 (n : Nat) (S : rvS) : ∀ (k : Nat) (a0 : Nat) (x1 : Int32) (x2 : Int32) (x3 : Int32) (r : Int32), cX6_bears_2 n S k a0 x1 x2 x3 = some r → rv_Ev mX6_bears 2 2 [(0, .ref a0), (1, .int x1), (2, .int x2), (3, .int x3)] [] S (some (.int r)) S := by
  intro k
  induction k with
  | zero => intro a0 x1 x2 x3 r h; exact absurd h (by simp [cX6_bears_2])
  | succ k ih =>
    intro a0 x1 x2 x3 r h
    unfold cX6_bears_2 at h
    refine re_iloadn (pc := 2) 3 (by decide +kernel : decode cX6_bears 2 = .ok (.iload_n 3, 1)) rfl ?_
    refine re_iconst (pc := 3) (3 : Int32) (by decide +kernel : decode cX6_bears 3 = .ok (.iconst 3, 1)) (by decide) ?_
    rcases rv_if_e h with ⟨g1_, h⟩ | ⟨g1_, h⟩
    · refine re_icmp_ge_t (pc := 4) 25 (by decide +kernel : decode cX6_bears 4 = .ok (.if_icmp .ge 21, 3)) (by decide) g1_ ?_
      refine re_iconst (pc := 25) (0 : Int32) (by decide +kernel : decode cX6_bears 25 = .ok (.iconst 0, 1)) (by decide) ?_
      cases h
      exact re_iret (fun ty hty => by cases hty; rfl) (by decide +kernel : decode cX6_bears 26 = .ok (.ireturn, 1))
    · refine re_icmp_ge_f (pc := 4) 25 (by decide +kernel : decode cX6_bears 4 = .ok (.if_icmp .ge 21, 3)) (by decide) g1_ ?_
      refine re_aloadn (pc := 7) 0 (by decide +kernel : decode cX6_bears 7 = .ok (.aload_n 0, 1)) rfl ?_
      refine re_iloadn (pc := 8) 1 (by decide +kernel : decode cX6_bears 8 = .ok (.iload_n 1, 1)) rfl ?_
      refine re_iloadn (pc := 9) 3 (by decide +kernel : decode cX6_bears 9 = .ok (.iload_n 3, 1)) rfl ?_
      obtain ⟨u2_, g3_, h⟩ := rv_b_e h
      obtain ⟨x5_, g6_, h⟩ := rv_b_e h
      have m4_ := metX6_nameAt n S a0 x1 x3 _ g6_
      refine re_cV (pc := 10) [.int x1, .int x3] m4_ (rv_okl.k ⟨rfl, rfl⟩) (rv_up.rf _ _) (by decide) (rv_ck_e g3_) ⟨by decide, rfl⟩ (Nat.le_of_ble_eq_true rfl) lVX6_36 rfl (by decide +kernel : decode cX6_bears 10 = .ok (.invokevirtual 36, 3)) ?_
      refine re_iloadn (pc := 13) 2 (by decide +kernel : decode cX6_bears 13 = .ok (.iload_n 2, 1)) rfl ?_
      rcases rv_if_e h with ⟨g7_, h⟩ | ⟨g7_, h⟩
      · refine re_icmp_ne_f (pc := 14) 19 (by decide +kernel : decode cX6_bears 14 = .ok (.if_icmp .ne 5, 3)) (by decide) g7_ ?_
        refine re_iconst (pc := 17) (1 : Int32) (by decide +kernel : decode cX6_bears 17 = .ok (.iconst 1, 1)) (by decide) ?_
        cases h
        exact re_iret (fun ty hty => by cases hty; rfl) (by decide +kernel : decode cX6_bears 18 = .ok (.ireturn, 1))
      · refine re_icmp_ne_t (pc := 14) 19 (by decide +kernel : decode cX6_bears 14 = .ok (.if_icmp .ne 5, 3)) (by decide) g7_ ?_
        obtain ⟨x8_, g9_, h⟩ := rv_lt_e h
        refine re_iinc (pc := 19) 3 x8_ (lv1 := [(3, .int x8_), (0, .ref a0), (1, .int x1), (2, .int x2)]) (by decide +kernel : decode cX6_bears 19 = .ok (.iinc 3 1, 3)) rfl g9_ (by decide) rfl ?_
        refine re_goto (pc := 22) 2 (by decide +kernel : decode cX6_bears 22 = .ok (.goto (-20), 3)) (by decide) ?_
        refine re_sub [1, 2, 3, 0] (lv1 := [(0, .ref a0), (1, .int x1), (2, .int x2), (3, .int x8_)]) rfl ?_
        exact ih a0 x1 x2 x8_ _ h
noncomputable def fnX6_bears (n : Nat) (S : rvS) (a0 : Nat) (x1 : Int32) (x2 : Int32) : Option Int32 :=
  cX6_bears_2 n S n a0 x1 x2 (0 : Int32)
set_option maxRecDepth 20000 in
set_option maxHeartbeats 4000000 in
theorem eX6_bears_in (n : Nat) (S : rvS) (a0 : Nat) (x1 : Int32) (x2 : Int32) (r : Int32) (h : fnX6_bears n S a0 x1 x2 = some r) : rv_Ev mX6_bears 2 0 [(0, .ref a0), (1, .int x1), (2, .int x2)] [] S (some (.int r)) S := by
  unfold fnX6_bears at h
  refine re_iconst (pc := 0) (0 : Int32) (by decide +kernel : decode cX6_bears 0 = .ok (.iconst 0, 1)) (by decide) ?_
  refine re_istoren (pc := 1) (lv1 := [(3, .int (0 : Int32)), (0, .ref a0), (1, .int x1), (2, .int x2)]) (by decide +kernel : decode cX6_bears 1 = .ok (.istore_n 3, 1)) rfl (by decide) rfl ?_
  refine re_sub [1, 2, 3, 0] (lv1 := [(0, .ref a0), (1, .int x1), (2, .int x2), (3, .int (0 : Int32))]) rfl ?_
  exact eX6_bears_2 n S n a0 x1 x2 (0 : Int32) _ h
theorem metX6_bears (n : Nat) (S : rvS) (a0 : Nat) (x1 : Int32) (x2 : Int32) (r : Int32) (h : fnX6_bears n S a0 x1 x2 = some r) : rv_Met yX6_bears mX6_bears 2 [.ref a0, .int x1, .int x2] S (some (.int r)) S := rv_Met.of ⟨by decide +kernel, rfl, (fun z => by first | rfl | cases z), rfl⟩ (Nat.le_of_ble_eq_true rfl) rfl (eX6_bears_in n S a0 x1 x2 r h)
noncomputable def cX6_shorten_7 (n : Nat) : Nat → rvS → Nat → Int32 → Int32 → Option rvS
  | 0, _, _, _, _ => none
  | k + 1, S, a0, x1, x2 =>
    (rv_gI S 5 a0 0).bind fun x1_ =>
    if x1_ ≤ x2 then (
      some S)
    else (
      (rv_gR S 5 a0 4).bind fun a4_ =>
      (rv_aI S 0 a4_ x2).bind fun x6_ =>
      (rv_uI S a4_ x2 (x6_ &&& (((1 : Int32) <<< (((5 : Int32) * x1) &&& 31)) - (1 : Int32)))).bind fun S8_ =>
      rv_lt (x2 + (1)) fun x10_ =>
      cX6_shorten_7 n k S8_ a0 x1 x10_)
set_option maxRecDepth 20000 in
set_option maxHeartbeats 4000000 in
theorem eX6_shorten_7 (n : Nat) : ∀ (k : Nat) (S : rvS) (a0 : Nat) (x1 : Int32) (x2 : Int32) (S' : rvS), cX6_shorten_7 n k S a0 x1 x2 = some S' → rv_Ev mX6_shorten 0 7 [(0, .ref a0), (1, .int x1), (2, .int x2)] [] S none S' := by
  intro k
  induction k with
  | zero => intro S a0 x1 x2 S' h; exact absurd h (by simp [cX6_shorten_7])
  | succ k ih =>
    intro S a0 x1 x2 S' h
    unfold cX6_shorten_7 at h
    refine re_iloadn (pc := 7) 2 (by decide +kernel : decode cX6_shorten 7 = .ok (.iload_n 2, 1)) rfl ?_
    refine re_aloadn (pc := 8) 0 (by decide +kernel : decode cX6_shorten 8 = .ok (.aload_n 0, 1)) rfl ?_
    obtain ⟨x1_, g2_, h⟩ := rv_b_e h
    refine re_gI (pc := 9) g2_ lfX6_25 rfl (by decide +kernel : decode cX6_shorten 9 = .ok (.getfield 25, 3)) ?_
    rcases rv_if_e h with ⟨g3_, h⟩ | ⟨g3_, h⟩
    · refine re_icmp_ge_t (pc := 12) 37 (by decide +kernel : decode cX6_shorten 12 = .ok (.if_icmp .ge 25, 3)) (by decide) g3_ ?_
      cases h
      exact re_vret (by decide +kernel : decode cX6_shorten 37 = .ok (.return_, 1))
    · refine re_icmp_ge_f (pc := 12) 37 (by decide +kernel : decode cX6_shorten 12 = .ok (.if_icmp .ge 25, 3)) (by decide) g3_ ?_
      refine re_aloadn (pc := 15) 0 (by decide +kernel : decode cX6_shorten 15 = .ok (.aload_n 0, 1)) rfl ?_
      obtain ⟨a4_, g5_, h⟩ := rv_b_e h
      refine re_gR (pc := 16) g5_ lfX6_22 rfl (by decide +kernel : decode cX6_shorten 16 = .ok (.getfield 22, 3)) ?_
      refine re_iloadn (pc := 19) 2 (by decide +kernel : decode cX6_shorten 19 = .ok (.iload_n 2, 1)) rfl ?_
      refine re_dup2 (pc := 20) (by decide +kernel : decode cX6_shorten 20 = .ok (.dup2, 1)) rfl rfl ?_
      obtain ⟨x6_, g7_, h⟩ := rv_b_e h
      refine re_aI (pc := 21) g7_ (by decide +kernel : decode cX6_shorten 21 = .ok (.iaload, 1)) ?_
      refine re_iconst (pc := 22) (1 : Int32) (by decide +kernel : decode cX6_shorten 22 = .ok (.iconst 1, 1)) (by decide) ?_
      refine re_iconst (pc := 23) (5 : Int32) (by decide +kernel : decode cX6_shorten 23 = .ok (.iconst 5, 1)) (by decide) ?_
      refine re_iloadn (pc := 24) 1 (by decide +kernel : decode cX6_shorten 24 = .ok (.iload_n 1, 1)) rfl ?_
      refine re_imul (pc := 25) (by decide +kernel : decode cX6_shorten 25 = .ok (.imul, 1)) ?_
      refine re_ishl (pc := 26) (by decide +kernel : decode cX6_shorten 26 = .ok (.ishl, 1)) ?_
      refine re_iconst (pc := 27) (1 : Int32) (by decide +kernel : decode cX6_shorten 27 = .ok (.iconst 1, 1)) (by decide) ?_
      refine re_isub (pc := 28) (by decide +kernel : decode cX6_shorten 28 = .ok (.isub, 1)) ?_
      refine re_iand (pc := 29) (by decide +kernel : decode cX6_shorten 29 = .ok (.iand, 1)) ?_
      obtain ⟨S8_, g9_, h⟩ := rv_b_e h
      refine re_uI (pc := 30) g9_ (by decide +kernel : decode cX6_shorten 30 = .ok (.iastore, 1)) ?_
      obtain ⟨x10_, g11_, h⟩ := rv_lt_e h
      refine re_iinc (pc := 31) 2 x10_ (lv1 := [(2, .int x10_), (0, .ref a0), (1, .int x1)]) (by decide +kernel : decode cX6_shorten 31 = .ok (.iinc 2 1, 3)) rfl g11_ (by decide) rfl ?_
      refine re_goto (pc := 34) 7 (by decide +kernel : decode cX6_shorten 34 = .ok (.goto (-27), 3)) (by decide) ?_
      refine re_sub [1, 2, 0] (lv1 := [(0, .ref a0), (1, .int x1), (2, .int x10_)]) rfl ?_
      exact ih S8_ a0 x1 x10_ _ h
noncomputable def fnX6_shorten (n : Nat) (S : rvS) (a0 : Nat) (x1 : Int32) : Option rvS :=
  (rv_pI S 5 a0 1 x1).bind fun S1_ =>
  cX6_shorten_7 n n S1_ a0 x1 (0 : Int32)
set_option maxRecDepth 20000 in
set_option maxHeartbeats 4000000 in
theorem eX6_shorten_in (n : Nat) (S : rvS) (a0 : Nat) (x1 : Int32) (S' : rvS) (h : fnX6_shorten n S a0 x1 = some S') : rv_Ev mX6_shorten 0 0 [(0, .ref a0), (1, .int x1)] [] S none S' := by
  unfold fnX6_shorten at h
  refine re_aloadn (pc := 0) 0 (by decide +kernel : decode cX6_shorten 0 = .ok (.aload_n 0, 1)) rfl ?_
  refine re_iloadn (pc := 1) 1 (by decide +kernel : decode cX6_shorten 1 = .ok (.iload_n 1, 1)) rfl ?_
  obtain ⟨S1_, g2_, h⟩ := rv_b_e h
  refine re_pI (pc := 2) g2_ lfX6_11 rfl rfl rfl rfl (by decide +kernel : decode cX6_shorten 2 = .ok (.putfield 11, 3)) ?_
  refine re_iconst (pc := 5) (0 : Int32) (by decide +kernel : decode cX6_shorten 5 = .ok (.iconst 0, 1)) (by decide) ?_
  refine re_istoren (pc := 6) (lv1 := [(2, .int (0 : Int32)), (0, .ref a0), (1, .int x1)]) (by decide +kernel : decode cX6_shorten 6 = .ok (.istore_n 2, 1)) rfl (by decide) rfl ?_
  refine re_sub [1, 2, 0] (lv1 := [(0, .ref a0), (1, .int x1), (2, .int (0 : Int32))]) rfl ?_
  exact eX6_shorten_7 n n S1_ a0 x1 (0 : Int32) _ h
theorem metX6_shorten (n : Nat) (S : rvS) (a0 : Nat) (x1 : Int32) (S' : rvS) (h : fnX6_shorten n S a0 x1 = some S') : rv_Met yX6_shorten mX6_shorten 0 [.ref a0, .int x1] S none S' := rv_Met.of ⟨by decide +kernel, rfl, (fun z => by first | rfl | cases z), rfl⟩ (Nat.le_of_ble_eq_true rfl) rfl (eX6_shorten_in n S a0 x1 S' h)
noncomputable def cX6_worth_5 (n : Nat) (S : rvS) : Nat → Nat → Int64 → Int32 → Int32 → Option Int32
  | 0, _, _, _, _ => none
  | k + 1, a0, x1, x3, x4 =>
    (rv_gI S 5 a0 0).bind fun x1_ =>
    if x1_ ≤ x4 then (
      some x3)
    else (
      if (lg_cmp (((x1.toUInt64 >>> (x4.toInt64.toUInt64 &&& Int64.toUInt64 63)).toInt64) &&& (1 : Int64)) (0 : Int64)) = 0 then (
        rv_lt (x4 + (1)) fun x5_ =>
        cX6_worth_5 n S k a0 x1 x3 x5_)
      else (
        (rv_gR S 5 a0 2).bind fun a7_ =>
        (rv_aI S 0 a7_ x4).bind fun x9_ =>
        rv_lt (x3 + x9_) fun x11_ =>
        rv_lt (x4 + (1)) fun x13_ =>
        cX6_worth_5 n S k a0 x1 x11_ x13_))
set_option maxRecDepth 20000 in
set_option maxHeartbeats 4000000 in
theorem eX6_worth_5 (n : Nat) (S : rvS) : ∀ (k : Nat) (a0 : Nat) (x1 : Int64) (x3 : Int32) (x4 : Int32) (r : Int32), cX6_worth_5 n S k a0 x1 x3 x4 = some r → rv_Ev mX6_worth 0 5 [(0, .ref a0), (1, .long x1), (3, .int x3), (4, .int x4)] [] S (some (.int r)) S := by
  intro k
  induction k with
  | zero => intro a0 x1 x3 x4 r h; exact absurd h (by simp [cX6_worth_5])
  | succ k ih =>
    intro a0 x1 x3 x4 r h
    unfold cX6_worth_5 at h
    refine re_iload (pc := 5) 3 (by decide +kernel : decode cX6_worth 5 = .ok (.iload 4, 2)) rfl ?_
    refine re_aloadn (pc := 7) 0 (by decide +kernel : decode cX6_worth 7 = .ok (.aload_n 0, 1)) rfl ?_
    obtain ⟨x1_, g2_, h⟩ := rv_b_e h
    refine re_gI (pc := 8) g2_ lfX6_25 rfl (by decide +kernel : decode cX6_worth 8 = .ok (.getfield 25, 3)) ?_
    rcases rv_if_e h with ⟨g3_, h⟩ | ⟨g3_, h⟩
    · refine re_icmp_ge_t (pc := 11) 41 (by decide +kernel : decode cX6_worth 11 = .ok (.if_icmp .ge 30, 3)) (by decide) g3_ ?_
      refine re_iloadn (pc := 41) 2 (by decide +kernel : decode cX6_worth 41 = .ok (.iload_n 3, 1)) rfl ?_
      cases h
      exact re_iret (fun ty hty => by cases hty; rfl) (by decide +kernel : decode cX6_worth 42 = .ok (.ireturn, 1))
    · refine re_icmp_ge_f (pc := 11) 41 (by decide +kernel : decode cX6_worth 11 = .ok (.if_icmp .ge 30, 3)) (by decide) g3_ ?_
      refine re_lloadn (pc := 14) 1 (by decide +kernel : decode cX6_worth 14 = .ok (.lload_n 1, 1)) rfl ?_
      refine re_iload (pc := 15) 3 (by decide +kernel : decode cX6_worth 15 = .ok (.iload 4, 2)) rfl ?_
      refine re_lushr (pc := 17) (by decide +kernel : decode cX6_worth 17 = .ok (.lushr, 1)) ?_
      refine re_lconst (pc := 18) (1 : Int64) (by decide +kernel : decode cX6_worth 18 = .ok (.lconst 1, 1)) (by decide) ?_
      refine re_land (pc := 19) (by decide +kernel : decode cX6_worth 19 = .ok (.land, 1)) ?_
      refine re_lconst (pc := 20) (0 : Int64) (by decide +kernel : decode cX6_worth 20 = .ok (.lconst 0, 1)) (by decide) ?_
      refine re_lcmp (pc := 21) (by decide +kernel : decode cX6_worth 21 = .ok (.lcmp, 1)) ?_
      rcases rv_if_e h with ⟨g4_, h⟩ | ⟨g4_, h⟩
      · refine re_if_eq_t (pc := 22) 35 (by decide +kernel : decode cX6_worth 22 = .ok (.ifCond .eq 13, 3)) (by decide) g4_ ?_
        obtain ⟨x5_, g6_, h⟩ := rv_lt_e h
        refine re_iinc (pc := 35) 3 x5_ (lv1 := [(4, .int x5_), (0, .ref a0), (1, .long x1), (3, .int x3)]) (by decide +kernel : decode cX6_worth 35 = .ok (.iinc 4 1, 3)) rfl g6_ (by decide) rfl ?_
        refine re_goto (pc := 38) 5 (by decide +kernel : decode cX6_worth 38 = .ok (.goto (-33), 3)) (by decide) ?_
        refine re_sub [1, 2, 3, 0] (lv1 := [(0, .ref a0), (1, .long x1), (3, .int x3), (4, .int x5_)]) rfl ?_
        exact ih a0 x1 x3 x5_ _ h
      · refine re_if_eq_f (pc := 22) 35 (by decide +kernel : decode cX6_worth 22 = .ok (.ifCond .eq 13, 3)) (by decide) g4_ ?_
        refine re_iloadn (pc := 25) 2 (by decide +kernel : decode cX6_worth 25 = .ok (.iload_n 3, 1)) rfl ?_
        refine re_aloadn (pc := 26) 0 (by decide +kernel : decode cX6_worth 26 = .ok (.aload_n 0, 1)) rfl ?_
        obtain ⟨a7_, g8_, h⟩ := rv_b_e h
        refine re_gR (pc := 27) g8_ lfX6_15 rfl (by decide +kernel : decode cX6_worth 27 = .ok (.getfield 15, 3)) ?_
        refine re_iload (pc := 30) 3 (by decide +kernel : decode cX6_worth 30 = .ok (.iload 4, 2)) rfl ?_
        obtain ⟨x9_, g10_, h⟩ := rv_b_e h
        refine re_aI (pc := 32) g10_ (by decide +kernel : decode cX6_worth 32 = .ok (.iaload, 1)) ?_
        refine re_iadd (pc := 33) (by decide +kernel : decode cX6_worth 33 = .ok (.iadd, 1)) ?_
        obtain ⟨x11_, g12_, h⟩ := rv_lt_e h
        refine re_nI (pc := 34) g12_ ?_
        refine re_istoren (pc := 34) (lv1 := [(3, .int x11_), (0, .ref a0), (1, .long x1), (4, .int x4)]) (by decide +kernel : decode cX6_worth 34 = .ok (.istore_n 3, 1)) rfl (by decide) rfl ?_
        obtain ⟨x13_, g14_, h⟩ := rv_lt_e h
        refine re_iinc (pc := 35) 3 x13_ (lv1 := [(4, .int x13_), (3, .int x11_), (0, .ref a0), (1, .long x1)]) (by decide +kernel : decode cX6_worth 35 = .ok (.iinc 4 1, 3)) rfl g14_ (by decide) rfl ?_
        refine re_goto (pc := 38) 5 (by decide +kernel : decode cX6_worth 38 = .ok (.goto (-33), 3)) (by decide) ?_
        refine re_sub [2, 3, 1, 0] (lv1 := [(0, .ref a0), (1, .long x1), (3, .int x11_), (4, .int x13_)]) rfl ?_
        exact ih a0 x1 x11_ x13_ _ h
noncomputable def fnX6_worth (n : Nat) (S : rvS) (a0 : Nat) (x1 : Int64) : Option Int32 :=
  cX6_worth_5 n S n a0 x1 (0 : Int32) (0 : Int32)
set_option maxRecDepth 20000 in
set_option maxHeartbeats 4000000 in
theorem eX6_worth_in (n : Nat) (S : rvS) (a0 : Nat) (x1 : Int64) (r : Int32) (h : fnX6_worth n S a0 x1 = some r) : rv_Ev mX6_worth 0 0 [(0, .ref a0), (1, .long x1)] [] S (some (.int r)) S := by
  unfold fnX6_worth at h
  refine re_iconst (pc := 0) (0 : Int32) (by decide +kernel : decode cX6_worth 0 = .ok (.iconst 0, 1)) (by decide) ?_
  refine re_istoren (pc := 1) (lv1 := [(3, .int (0 : Int32)), (0, .ref a0), (1, .long x1)]) (by decide +kernel : decode cX6_worth 1 = .ok (.istore_n 3, 1)) rfl (by decide) rfl ?_
  refine re_iconst (pc := 2) (0 : Int32) (by decide +kernel : decode cX6_worth 2 = .ok (.iconst 0, 1)) (by decide) ?_
  refine re_istore (pc := 3) (lv1 := [(4, .int (0 : Int32)), (3, .int (0 : Int32)), (0, .ref a0), (1, .long x1)]) (by decide +kernel : decode cX6_worth 3 = .ok (.istore 4, 2)) (by decide) rfl ?_
  refine re_sub [2, 3, 1, 0] (lv1 := [(0, .ref a0), (1, .long x1), (3, .int (0 : Int32)), (4, .int (0 : Int32))]) rfl ?_
  exact eX6_worth_5 n S n a0 x1 (0 : Int32) (0 : Int32) _ h
theorem metX6_worth (n : Nat) (S : rvS) (a0 : Nat) (x1 : Int64) (r : Int32) (h : fnX6_worth n S a0 x1 = some r) : rv_Met yX6_worth mX6_worth 0 [.ref a0, .long x1] S (some (.int r)) S := rv_Met.of ⟨by decide +kernel, rfl, (fun z => by first | rfl | cases z), rfl⟩ (Nat.le_of_ble_eq_true rfl) rfl (eX6_worth_in n S a0 x1 r h)
noncomputable def cX6_inherit_2 (n : Nat) : Nat → rvS → Nat → Int32 → Int32 → Int32 → Option rvS
  | 0, _, _, _, _, _ => none
  | k + 1, S, a0, x1, x2, x3 =>
    (rv_gI S 5 a0 0).bind fun x1_ =>
    if x1_ ≤ x3 then (
      some S)
    else (
      (rv_gR S 5 a0 3).bind fun a4_ =>
      (rv_aI S 0 a4_ x3).bind fun x6_ =>
      if x6_ = x1 then (
        (rv_gR S 5 a0 3).bind fun a11_ =>
        (rv_uI S a11_ x3 x2).bind fun S13_ =>
        rv_lt (x3 + (1)) fun x15_ =>
        cX6_inherit_2 n k S13_ a0 x1 x2 x15_)
      else (
        rv_lt (x3 + (1)) fun x9_ =>
        cX6_inherit_2 n k S a0 x1 x2 x9_))
set_option maxRecDepth 20000 in
set_option maxHeartbeats 4000000 in
theorem eX6_inherit_2 (n : Nat) : ∀ (k : Nat) (S : rvS) (a0 : Nat) (x1 : Int32) (x2 : Int32) (x3 : Int32) (S' : rvS), cX6_inherit_2 n k S a0 x1 x2 x3 = some S' → rv_Ev mX6_inherit 0 2 [(0, .ref a0), (1, .int x1), (2, .int x2), (3, .int x3)] [] S none S' := by
  intro k
  induction k with
  | zero => intro S a0 x1 x2 x3 S' h; exact absurd h (by simp [cX6_inherit_2])
  | succ k ih =>
    intro S a0 x1 x2 x3 S' h
    unfold cX6_inherit_2 at h
    refine re_iloadn (pc := 2) 3 (by decide +kernel : decode cX6_inherit 2 = .ok (.iload_n 3, 1)) rfl ?_
    refine re_aloadn (pc := 3) 0 (by decide +kernel : decode cX6_inherit 3 = .ok (.aload_n 0, 1)) rfl ?_
    obtain ⟨x1_, g2_, h⟩ := rv_b_e h
    refine re_gI (pc := 4) g2_ lfX6_25 rfl (by decide +kernel : decode cX6_inherit 4 = .ok (.getfield 25, 3)) ?_
    rcases rv_if_e h with ⟨g3_, h⟩ | ⟨g3_, h⟩
    · refine re_icmp_ge_t (pc := 7) 33 (by decide +kernel : decode cX6_inherit 7 = .ok (.if_icmp .ge 26, 3)) (by decide) g3_ ?_
      cases h
      exact re_vret (by decide +kernel : decode cX6_inherit 33 = .ok (.return_, 1))
    · refine re_icmp_ge_f (pc := 7) 33 (by decide +kernel : decode cX6_inherit 7 = .ok (.if_icmp .ge 26, 3)) (by decide) g3_ ?_
      refine re_aloadn (pc := 10) 0 (by decide +kernel : decode cX6_inherit 10 = .ok (.aload_n 0, 1)) rfl ?_
      obtain ⟨a4_, g5_, h⟩ := rv_b_e h
      refine re_gR (pc := 11) g5_ lfX6_19 rfl (by decide +kernel : decode cX6_inherit 11 = .ok (.getfield 19, 3)) ?_
      refine re_iloadn (pc := 14) 3 (by decide +kernel : decode cX6_inherit 14 = .ok (.iload_n 3, 1)) rfl ?_
      obtain ⟨x6_, g7_, h⟩ := rv_b_e h
      refine re_aI (pc := 15) g7_ (by decide +kernel : decode cX6_inherit 15 = .ok (.iaload, 1)) ?_
      refine re_iloadn (pc := 16) 1 (by decide +kernel : decode cX6_inherit 16 = .ok (.iload_n 1, 1)) rfl ?_
      rcases rv_if_e h with ⟨g8_, h⟩ | ⟨g8_, h⟩
      · refine re_icmp_ne_f (pc := 17) 27 (by decide +kernel : decode cX6_inherit 17 = .ok (.if_icmp .ne 10, 3)) (by decide) g8_ ?_
        refine re_aloadn (pc := 20) 0 (by decide +kernel : decode cX6_inherit 20 = .ok (.aload_n 0, 1)) rfl ?_
        obtain ⟨a11_, g12_, h⟩ := rv_b_e h
        refine re_gR (pc := 21) g12_ lfX6_19 rfl (by decide +kernel : decode cX6_inherit 21 = .ok (.getfield 19, 3)) ?_
        refine re_iloadn (pc := 24) 3 (by decide +kernel : decode cX6_inherit 24 = .ok (.iload_n 3, 1)) rfl ?_
        refine re_iloadn (pc := 25) 2 (by decide +kernel : decode cX6_inherit 25 = .ok (.iload_n 2, 1)) rfl ?_
        obtain ⟨S13_, g14_, h⟩ := rv_b_e h
        refine re_uI (pc := 26) g14_ (by decide +kernel : decode cX6_inherit 26 = .ok (.iastore, 1)) ?_
        obtain ⟨x15_, g16_, h⟩ := rv_lt_e h
        refine re_iinc (pc := 27) 3 x15_ (lv1 := [(3, .int x15_), (0, .ref a0), (1, .int x1), (2, .int x2)]) (by decide +kernel : decode cX6_inherit 27 = .ok (.iinc 3 1, 3)) rfl g16_ (by decide) rfl ?_
        refine re_goto (pc := 30) 2 (by decide +kernel : decode cX6_inherit 30 = .ok (.goto (-28), 3)) (by decide) ?_
        refine re_sub [1, 2, 3, 0] (lv1 := [(0, .ref a0), (1, .int x1), (2, .int x2), (3, .int x15_)]) rfl ?_
        exact ih S13_ a0 x1 x2 x15_ _ h
      · refine re_icmp_ne_t (pc := 17) 27 (by decide +kernel : decode cX6_inherit 17 = .ok (.if_icmp .ne 10, 3)) (by decide) g8_ ?_
        obtain ⟨x9_, g10_, h⟩ := rv_lt_e h
        refine re_iinc (pc := 27) 3 x9_ (lv1 := [(3, .int x9_), (0, .ref a0), (1, .int x1), (2, .int x2)]) (by decide +kernel : decode cX6_inherit 27 = .ok (.iinc 3 1, 3)) rfl g10_ (by decide) rfl ?_
        refine re_goto (pc := 30) 2 (by decide +kernel : decode cX6_inherit 30 = .ok (.goto (-28), 3)) (by decide) ?_
        refine re_sub [1, 2, 3, 0] (lv1 := [(0, .ref a0), (1, .int x1), (2, .int x2), (3, .int x9_)]) rfl ?_
        exact ih S a0 x1 x2 x9_ _ h
noncomputable def fnX6_inherit (n : Nat) (S : rvS) (a0 : Nat) (x1 : Int32) (x2 : Int32) : Option rvS :=
  cX6_inherit_2 n n S a0 x1 x2 (0 : Int32)
set_option maxRecDepth 20000 in
set_option maxHeartbeats 4000000 in
theorem eX6_inherit_in (n : Nat) (S : rvS) (a0 : Nat) (x1 : Int32) (x2 : Int32) (S' : rvS) (h : fnX6_inherit n S a0 x1 x2 = some S') : rv_Ev mX6_inherit 0 0 [(0, .ref a0), (1, .int x1), (2, .int x2)] [] S none S' := by
  unfold fnX6_inherit at h
  refine re_iconst (pc := 0) (0 : Int32) (by decide +kernel : decode cX6_inherit 0 = .ok (.iconst 0, 1)) (by decide) ?_
  refine re_istoren (pc := 1) (lv1 := [(3, .int (0 : Int32)), (0, .ref a0), (1, .int x1), (2, .int x2)]) (by decide +kernel : decode cX6_inherit 1 = .ok (.istore_n 3, 1)) rfl (by decide) rfl ?_
  refine re_sub [1, 2, 3, 0] (lv1 := [(0, .ref a0), (1, .int x1), (2, .int x2), (3, .int (0 : Int32))]) rfl ?_
  exact eX6_inherit_2 n n S a0 x1 x2 (0 : Int32) _ h
theorem metX6_inherit (n : Nat) (S : rvS) (a0 : Nat) (x1 : Int32) (x2 : Int32) (S' : rvS) (h : fnX6_inherit n S a0 x1 x2 = some S') : rv_Met yX6_inherit mX6_inherit 0 [.ref a0, .int x1, .int x2] S none S' := rv_Met.of ⟨by decide +kernel, rfl, (fun z => by first | rfl | cases z), rfl⟩ (Nat.le_of_ble_eq_true rfl) rfl (eX6_inherit_in n S a0 x1 x2 S' h)
noncomputable def cX6_rename_55 (n : Nat) (K2 : Nat → Int32 → Int32 → Int32 → rvS → Option rvS) (K19 : Nat → Int32 → Int32 → Int32 → Int32 → Int32 → Int32 → rvS → Option rvS) (S : rvS) (a0 : Nat) (x1 : Int32) (x2 : Int32) (x3 : Int32) (x4 : Int32) (x5 : Int32) (x6 : Int32) (t0 : Int32) : Option rvS :=
  if t0 = (-1 : Int32) then (
    rv_lt (x6 + (1)) fun x2_ =>
    K19 a0 x1 x2 x3 x4 x5 x2_ S)
  else (
    rv_lt (x4 ||| ((t0 + (1 : Int32)) <<< (((5 : Int32) * x5) &&& 31))) fun x4_ =>
    rv_lt (x5 + (1)) fun x6_ =>
    rv_lt (x6 + (1)) fun x8_ =>
    K19 a0 x1 x2 x3 x4_ x6_ x8_ S)
set_option maxRecDepth 20000 in
set_option maxHeartbeats 4000000 in
theorem eX6_rename_55 (n : Nat) (K2 : Nat → Int32 → Int32 → Int32 → rvS → Option rvS) (K19 : Nat → Int32 → Int32 → Int32 → Int32 → Int32 → Int32 → rvS → Option rvS) (hK2 : ∀ (a0 : Nat) (x1 : Int32) (x2 : Int32) (x3 : Int32) (S : rvS) (S' : rvS), K2 a0 x1 x2 x3 S = some S' → rv_Ev mX6_rename 1 2 [(0, .ref a0), (1, .int x1), (2, .int x2), (3, .int x3)] [] S none S') (hK19 : ∀ (a0 : Nat) (x1 : Int32) (x2 : Int32) (x3 : Int32) (x4 : Int32) (x5 : Int32) (x6 : Int32) (S : rvS) (S' : rvS), K19 a0 x1 x2 x3 x4 x5 x6 S = some S' → rv_Ev mX6_rename 1 19 [(0, .ref a0), (1, .int x1), (2, .int x2), (3, .int x3), (4, .int x4), (5, .int x5), (6, .int x6)] [] S none S') (S : rvS) (a0 : Nat) (x1 : Int32) (x2 : Int32) (x3 : Int32) (x4 : Int32) (x5 : Int32) (x6 : Int32) (t0 : Int32) (S' : rvS) (h : cX6_rename_55 n K2 K19 S a0 x1 x2 x3 x4 x5 x6 t0 = some S') : rv_Ev mX6_rename 1 55 [(0, .ref a0), (1, .int x1), (2, .int x2), (3, .int x3), (4, .int x4), (5, .int x5), (6, .int x6)] [.int t0] S none S' := by
  unfold cX6_rename_55 at h
  refine re_istore (pc := 55) (lv1 := [(7, .int t0), (0, .ref a0), (1, .int x1), (2, .int x2), (3, .int x3), (4, .int x4), (5, .int x5), (6, .int x6)]) (by decide +kernel : decode cX6_rename 55 = .ok (.istore 7, 2)) (by decide) rfl ?_
  refine re_iload (pc := 57) 0 (by decide +kernel : decode cX6_rename 57 = .ok (.iload 7, 2)) rfl ?_
  refine re_iconst (pc := 59) (-1 : Int32) (by decide +kernel : decode cX6_rename 59 = .ok (.iconst (-1), 1)) (by decide) ?_
  rcases rv_if_e h with ⟨g1_, h⟩ | ⟨g1_, h⟩
  · refine re_icmp_eq_t (pc := 60) 80 (by decide +kernel : decode cX6_rename 60 = .ok (.if_icmp .eq 20, 3)) (by decide) g1_ ?_
    obtain ⟨x2_, g3_, h⟩ := rv_lt_e h
    refine re_iinc (pc := 80) 7 x2_ (lv1 := [(6, .int x2_), (7, .int t0), (0, .ref a0), (1, .int x1), (2, .int x2), (3, .int x3), (4, .int x4), (5, .int x5)]) (by decide +kernel : decode cX6_rename 80 = .ok (.iinc 6 1, 3)) rfl g3_ (by decide) rfl ?_
    refine re_goto (pc := 83) 19 (by decide +kernel : decode cX6_rename 83 = .ok (.goto (-64), 3)) (by decide) ?_
    refine re_sub [2, 3, 4, 5, 6, 7, 0] (lv1 := [(0, .ref a0), (1, .int x1), (2, .int x2), (3, .int x3), (4, .int x4), (5, .int x5), (6, .int x2_)]) rfl ?_
    exact hK19 a0 x1 x2 x3 x4 x5 x2_ S _ h
  · refine re_icmp_eq_f (pc := 60) 80 (by decide +kernel : decode cX6_rename 60 = .ok (.if_icmp .eq 20, 3)) (by decide) g1_ ?_
    refine re_iload (pc := 63) 5 (by decide +kernel : decode cX6_rename 63 = .ok (.iload 4, 2)) rfl ?_
    refine re_iload (pc := 65) 0 (by decide +kernel : decode cX6_rename 65 = .ok (.iload 7, 2)) rfl ?_
    refine re_iconst (pc := 67) (1 : Int32) (by decide +kernel : decode cX6_rename 67 = .ok (.iconst 1, 1)) (by decide) ?_
    refine re_iadd (pc := 68) (by decide +kernel : decode cX6_rename 68 = .ok (.iadd, 1)) ?_
    refine re_iconst (pc := 69) (5 : Int32) (by decide +kernel : decode cX6_rename 69 = .ok (.iconst 5, 1)) (by decide) ?_
    refine re_iload (pc := 70) 6 (by decide +kernel : decode cX6_rename 70 = .ok (.iload 5, 2)) rfl ?_
    refine re_imul (pc := 72) (by decide +kernel : decode cX6_rename 72 = .ok (.imul, 1)) ?_
    refine re_ishl (pc := 73) (by decide +kernel : decode cX6_rename 73 = .ok (.ishl, 1)) ?_
    refine re_ior (pc := 74) (by decide +kernel : decode cX6_rename 74 = .ok (.ior, 1)) ?_
    obtain ⟨x4_, g5_, h⟩ := rv_lt_e h
    refine re_nI (pc := 75) g5_ ?_
    refine re_istore (pc := 75) (lv1 := [(4, .int x4_), (7, .int t0), (0, .ref a0), (1, .int x1), (2, .int x2), (3, .int x3), (5, .int x5), (6, .int x6)]) (by decide +kernel : decode cX6_rename 75 = .ok (.istore 4, 2)) (by decide) rfl ?_
    obtain ⟨x6_, g7_, h⟩ := rv_lt_e h
    refine re_iinc (pc := 77) 6 x6_ (lv1 := [(5, .int x6_), (4, .int x4_), (7, .int t0), (0, .ref a0), (1, .int x1), (2, .int x2), (3, .int x3), (6, .int x6)]) (by decide +kernel : decode cX6_rename 77 = .ok (.iinc 5 1, 3)) rfl g7_ (by decide) rfl ?_
    obtain ⟨x8_, g9_, h⟩ := rv_lt_e h
    refine re_iinc (pc := 80) 7 x8_ (lv1 := [(6, .int x8_), (5, .int x6_), (4, .int x4_), (7, .int t0), (0, .ref a0), (1, .int x1), (2, .int x2), (3, .int x3)]) (by decide +kernel : decode cX6_rename 80 = .ok (.iinc 6 1, 3)) rfl g9_ (by decide) rfl ?_
    refine re_goto (pc := 83) 19 (by decide +kernel : decode cX6_rename 83 = .ok (.goto (-64), 3)) (by decide) ?_
    refine re_sub [4, 5, 6, 7, 2, 1, 0] (lv1 := [(0, .ref a0), (1, .int x1), (2, .int x2), (3, .int x3), (4, .int x4_), (5, .int x6_), (6, .int x8_)]) rfl ?_
    exact hK19 a0 x1 x2 x3 x4_ x6_ x8_ S _ h
noncomputable def cX6_rename_86 (n : Nat) (K2 : Nat → Int32 → Int32 → Int32 → rvS → Option rvS) (S : rvS) (a0 : Nat) (x1 : Int32) (x2 : Int32) (x3 : Int32) (x4 : Int32) : Option rvS :=
  (rv_gR S 5 a0 4).bind fun a1_ =>
  (rv_uI S a1_ x3 x4).bind fun S3_ =>
  rv_lt (x3 + (1)) fun x5_ =>
  K2 a0 x1 x2 x5_ S3_
set_option maxRecDepth 20000 in
set_option maxHeartbeats 4000000 in
theorem eX6_rename_86 (n : Nat) (K2 : Nat → Int32 → Int32 → Int32 → rvS → Option rvS) (hK2 : ∀ (a0 : Nat) (x1 : Int32) (x2 : Int32) (x3 : Int32) (S : rvS) (S' : rvS), K2 a0 x1 x2 x3 S = some S' → rv_Ev mX6_rename 1 2 [(0, .ref a0), (1, .int x1), (2, .int x2), (3, .int x3)] [] S none S') (S : rvS) (a0 : Nat) (x1 : Int32) (x2 : Int32) (x3 : Int32) (x4 : Int32) (S' : rvS) (h : cX6_rename_86 n K2 S a0 x1 x2 x3 x4 = some S') : rv_Ev mX6_rename 1 86 [(0, .ref a0), (1, .int x1), (2, .int x2), (3, .int x3), (4, .int x4)] [] S none S' := by
  unfold cX6_rename_86 at h
  refine re_aloadn (pc := 86) 0 (by decide +kernel : decode cX6_rename 86 = .ok (.aload_n 0, 1)) rfl ?_
  obtain ⟨a1_, g2_, h⟩ := rv_b_e h
  refine re_gR (pc := 87) g2_ lfX6_22 rfl (by decide +kernel : decode cX6_rename 87 = .ok (.getfield 22, 3)) ?_
  refine re_iloadn (pc := 90) 3 (by decide +kernel : decode cX6_rename 90 = .ok (.iload_n 3, 1)) rfl ?_
  refine re_iload (pc := 91) 4 (by decide +kernel : decode cX6_rename 91 = .ok (.iload 4, 2)) rfl ?_
  obtain ⟨S3_, g4_, h⟩ := rv_b_e h
  refine re_uI (pc := 93) g4_ (by decide +kernel : decode cX6_rename 93 = .ok (.iastore, 1)) ?_
  obtain ⟨x5_, g6_, h⟩ := rv_lt_e h
  refine re_iinc (pc := 94) 3 x5_ (lv1 := [(3, .int x5_), (0, .ref a0), (1, .int x1), (2, .int x2), (4, .int x4)]) (by decide +kernel : decode cX6_rename 94 = .ok (.iinc 3 1, 3)) rfl g6_ (by decide) rfl ?_
  refine re_goto (pc := 97) 2 (by decide +kernel : decode cX6_rename 97 = .ok (.goto (-95), 3)) (by decide) ?_
  refine re_sub [1, 2, 3, 0] (lv1 := [(0, .ref a0), (1, .int x1), (2, .int x2), (3, .int x5_)]) rfl ?_
  exact hK2 a0 x1 x2 x5_ S3_ _ h
noncomputable def cX6_rename_19 (n : Nat) (K2 : Nat → Int32 → Int32 → Int32 → rvS → Option rvS) : Nat → rvS → Nat → Int32 → Int32 → Int32 → Int32 → Int32 → Int32 → Option rvS
  | 0, _, _, _, _, _, _, _, _ => none
  | k + 1, S, a0, x1, x2, x3, x4, x5, x6 =>
    if (3 : Int32) ≤ x6 then (
      cX6_rename_86 n K2 S a0 x1 x2 x3 x4)
    else (
      (rv_gR S 5 a0 4).bind fun a2_ =>
      (rv_aI S 0 a2_ x3).bind fun x4_ =>
      (fnX6_nameOn n S x4_ x6).bind fun x7_ =>
      if x7_ = x1 then (
        cX6_rename_55 n K2 (fun a0 x1 x2 x3 x4 x5 x6 S => cX6_rename_19 n K2 k S a0 x1 x2 x3 x4 x5 x6) S a0 x1 x2 x3 x4 x5 x6 x2)
      else (
        (rv_gR S 5 a0 4).bind fun a10_ =>
        (rv_aI S 0 a10_ x3).bind fun x12_ =>
        (fnX6_nameOn n S x12_ x6).bind fun x15_ =>
        cX6_rename_55 n K2 (fun a0 x1 x2 x3 x4 x5 x6 S => cX6_rename_19 n K2 k S a0 x1 x2 x3 x4 x5 x6) S a0 x1 x2 x3 x4 x5 x6 x15_))
set_option maxRecDepth 20000 in
set_option maxHeartbeats 4000000 in
theorem eX6_rename_19 (n : Nat) (K2 : Nat → Int32 → Int32 → Int32 → rvS → Option rvS) (hK2 : ∀ (a0 : Nat) (x1 : Int32) (x2 : Int32) (x3 : Int32) (S : rvS) (S' : rvS), K2 a0 x1 x2 x3 S = some S' → rv_Ev mX6_rename 1 2 [(0, .ref a0), (1, .int x1), (2, .int x2), (3, .int x3)] [] S none S') : ∀ (k : Nat) (S : rvS) (a0 : Nat) (x1 : Int32) (x2 : Int32) (x3 : Int32) (x4 : Int32) (x5 : Int32) (x6 : Int32) (S' : rvS), cX6_rename_19 n K2 k S a0 x1 x2 x3 x4 x5 x6 = some S' → rv_Ev mX6_rename 1 19 [(0, .ref a0), (1, .int x1), (2, .int x2), (3, .int x3), (4, .int x4), (5, .int x5), (6, .int x6)] [] S none S' := by
  intro k
  induction k with
  | zero => intro S a0 x1 x2 x3 x4 x5 x6 S' h; exact absurd h (by simp [cX6_rename_19])
  | succ k ih =>
    intro S a0 x1 x2 x3 x4 x5 x6 S' h
    unfold cX6_rename_19 at h
    refine re_iload (pc := 19) 6 (by decide +kernel : decode cX6_rename 19 = .ok (.iload 6, 2)) rfl ?_
    refine re_iconst (pc := 21) (3 : Int32) (by decide +kernel : decode cX6_rename 21 = .ok (.iconst 3, 1)) (by decide) ?_
    rcases rv_if_e h with ⟨g1_, h⟩ | ⟨g1_, h⟩
    · refine re_icmp_ge_t (pc := 22) 86 (by decide +kernel : decode cX6_rename 22 = .ok (.if_icmp .ge 64, 3)) (by decide) g1_ ?_
      refine re_sub [0, 1, 2, 3, 4] (lv1 := [(0, .ref a0), (1, .int x1), (2, .int x2), (3, .int x3), (4, .int x4)]) rfl ?_
      exact eX6_rename_86 n K2 hK2 S a0 x1 x2 x3 x4 _ h
    · refine re_icmp_ge_f (pc := 22) 86 (by decide +kernel : decode cX6_rename 22 = .ok (.if_icmp .ge 64, 3)) (by decide) g1_ ?_
      refine re_aloadn (pc := 25) 0 (by decide +kernel : decode cX6_rename 25 = .ok (.aload_n 0, 1)) rfl ?_
      obtain ⟨a2_, g3_, h⟩ := rv_b_e h
      refine re_gR (pc := 26) g3_ lfX6_22 rfl (by decide +kernel : decode cX6_rename 26 = .ok (.getfield 22, 3)) ?_
      refine re_iloadn (pc := 29) 3 (by decide +kernel : decode cX6_rename 29 = .ok (.iload_n 3, 1)) rfl ?_
      obtain ⟨x4_, g5_, h⟩ := rv_b_e h
      refine re_aI (pc := 30) g5_ (by decide +kernel : decode cX6_rename 30 = .ok (.iaload, 1)) ?_
      refine re_iload (pc := 31) 6 (by decide +kernel : decode cX6_rename 31 = .ok (.iload 6, 2)) rfl ?_
      obtain ⟨x7_, g8_, h⟩ := rv_b_e h
      have m6_ := metX6_nameOn n S x4_ x6 _ g8_
      refine re_cS (pc := 33) [.int x4_, .int x6] m6_ (rv_okl.k ⟨rfl, rfl⟩) (rv_up.rf _ _) (by decide) (Nat.le_of_ble_eq_true rfl) lSX6_32 rfl (by decide +kernel : decode cX6_rename 33 = .ok (.invokestatic 32, 3)) ?_
      refine re_iloadn (pc := 36) 1 (by decide +kernel : decode cX6_rename 36 = .ok (.iload_n 1, 1)) rfl ?_
      rcases rv_if_e h with ⟨g9_, h⟩ | ⟨g9_, h⟩
      · refine re_icmp_ne_f (pc := 37) 44 (by decide +kernel : decode cX6_rename 37 = .ok (.if_icmp .ne 7, 3)) (by decide) g9_ ?_
        refine re_iloadn (pc := 40) 2 (by decide +kernel : decode cX6_rename 40 = .ok (.iload_n 2, 1)) rfl ?_
        refine re_goto (pc := 41) 55 (by decide +kernel : decode cX6_rename 41 = .ok (.goto 14, 3)) (by decide) ?_
        exact eX6_rename_55 n K2 (fun a0 x1 x2 x3 x4 x5 x6 S => cX6_rename_19 n K2 k S a0 x1 x2 x3 x4 x5 x6) hK2 (fun a0 x1 x2 x3 x4 x5 x6 S _ h => ih S a0 x1 x2 x3 x4 x5 x6 _ h) S a0 x1 x2 x3 x4 x5 x6 x2 _ h
      · refine re_icmp_ne_t (pc := 37) 44 (by decide +kernel : decode cX6_rename 37 = .ok (.if_icmp .ne 7, 3)) (by decide) g9_ ?_
        refine re_aloadn (pc := 44) 0 (by decide +kernel : decode cX6_rename 44 = .ok (.aload_n 0, 1)) rfl ?_
        obtain ⟨a10_, g11_, h⟩ := rv_b_e h
        refine re_gR (pc := 45) g11_ lfX6_22 rfl (by decide +kernel : decode cX6_rename 45 = .ok (.getfield 22, 3)) ?_
        refine re_iloadn (pc := 48) 3 (by decide +kernel : decode cX6_rename 48 = .ok (.iload_n 3, 1)) rfl ?_
        obtain ⟨x12_, g13_, h⟩ := rv_b_e h
        refine re_aI (pc := 49) g13_ (by decide +kernel : decode cX6_rename 49 = .ok (.iaload, 1)) ?_
        refine re_iload (pc := 50) 6 (by decide +kernel : decode cX6_rename 50 = .ok (.iload 6, 2)) rfl ?_
        obtain ⟨x15_, g16_, h⟩ := rv_b_e h
        have m14_ := metX6_nameOn n S x12_ x6 _ g16_
        refine re_cS (pc := 52) [.int x12_, .int x6] m14_ (rv_okl.k ⟨rfl, rfl⟩) (rv_up.rf _ _) (by decide) (Nat.le_of_ble_eq_true rfl) lSX6_32 rfl (by decide +kernel : decode cX6_rename 52 = .ok (.invokestatic 32, 3)) ?_
        exact eX6_rename_55 n K2 (fun a0 x1 x2 x3 x4 x5 x6 S => cX6_rename_19 n K2 k S a0 x1 x2 x3 x4 x5 x6) hK2 (fun a0 x1 x2 x3 x4 x5 x6 S _ h => ih S a0 x1 x2 x3 x4 x5 x6 _ h) S a0 x1 x2 x3 x4 x5 x6 x15_ _ h
noncomputable def cX6_rename_2 (n : Nat) : Nat → rvS → Nat → Int32 → Int32 → Int32 → Option rvS
  | 0, _, _, _, _, _ => none
  | k + 1, S, a0, x1, x2, x3 =>
    (rv_gI S 5 a0 0).bind fun x1_ =>
    if x1_ ≤ x3 then (
      some S)
    else (
      cX6_rename_19 n (fun a0 x1 x2 x3 S => cX6_rename_2 n k S a0 x1 x2 x3) n S a0 x1 x2 x3 (0 : Int32) (0 : Int32) (0 : Int32))
set_option maxRecDepth 20000 in
set_option maxHeartbeats 4000000 in
theorem eX6_rename_2 (n : Nat) : ∀ (k : Nat) (S : rvS) (a0 : Nat) (x1 : Int32) (x2 : Int32) (x3 : Int32) (S' : rvS), cX6_rename_2 n k S a0 x1 x2 x3 = some S' → rv_Ev mX6_rename 1 2 [(0, .ref a0), (1, .int x1), (2, .int x2), (3, .int x3)] [] S none S' := by
  intro k
  induction k with
  | zero => intro S a0 x1 x2 x3 S' h; exact absurd h (by simp [cX6_rename_2])
  | succ k ih =>
    intro S a0 x1 x2 x3 S' h
    unfold cX6_rename_2 at h
    refine re_iloadn (pc := 2) 3 (by decide +kernel : decode cX6_rename 2 = .ok (.iload_n 3, 1)) rfl ?_
    refine re_aloadn (pc := 3) 0 (by decide +kernel : decode cX6_rename 3 = .ok (.aload_n 0, 1)) rfl ?_
    obtain ⟨x1_, g2_, h⟩ := rv_b_e h
    refine re_gI (pc := 4) g2_ lfX6_25 rfl (by decide +kernel : decode cX6_rename 4 = .ok (.getfield 25, 3)) ?_
    rcases rv_if_e h with ⟨g3_, h⟩ | ⟨g3_, h⟩
    · refine re_icmp_ge_t (pc := 7) 100 (by decide +kernel : decode cX6_rename 7 = .ok (.if_icmp .ge 93, 3)) (by decide) g3_ ?_
      cases h
      exact re_vret (by decide +kernel : decode cX6_rename 100 = .ok (.return_, 1))
    · refine re_icmp_ge_f (pc := 7) 100 (by decide +kernel : decode cX6_rename 7 = .ok (.if_icmp .ge 93, 3)) (by decide) g3_ ?_
      refine re_iconst (pc := 10) (0 : Int32) (by decide +kernel : decode cX6_rename 10 = .ok (.iconst 0, 1)) (by decide) ?_
      refine re_istore (pc := 11) (lv1 := [(4, .int (0 : Int32)), (0, .ref a0), (1, .int x1), (2, .int x2), (3, .int x3)]) (by decide +kernel : decode cX6_rename 11 = .ok (.istore 4, 2)) (by decide) rfl ?_
      refine re_iconst (pc := 13) (0 : Int32) (by decide +kernel : decode cX6_rename 13 = .ok (.iconst 0, 1)) (by decide) ?_
      refine re_istore (pc := 14) (lv1 := [(5, .int (0 : Int32)), (4, .int (0 : Int32)), (0, .ref a0), (1, .int x1), (2, .int x2), (3, .int x3)]) (by decide +kernel : decode cX6_rename 14 = .ok (.istore 5, 2)) (by decide) rfl ?_
      refine re_iconst (pc := 16) (0 : Int32) (by decide +kernel : decode cX6_rename 16 = .ok (.iconst 0, 1)) (by decide) ?_
      refine re_istore (pc := 17) (lv1 := [(6, .int (0 : Int32)), (5, .int (0 : Int32)), (4, .int (0 : Int32)), (0, .ref a0), (1, .int x1), (2, .int x2), (3, .int x3)]) (by decide +kernel : decode cX6_rename 17 = .ok (.istore 6, 2)) (by decide) rfl ?_
      refine re_sub [3, 4, 5, 6, 2, 1, 0] (lv1 := [(0, .ref a0), (1, .int x1), (2, .int x2), (3, .int x3), (4, .int (0 : Int32)), (5, .int (0 : Int32)), (6, .int (0 : Int32))]) rfl ?_
      exact eX6_rename_19 n (fun a0 x1 x2 x3 S => cX6_rename_2 n k S a0 x1 x2 x3) (fun a0 x1 x2 x3 S _ h => ih S a0 x1 x2 x3 _ h) n S a0 x1 x2 x3 (0 : Int32) (0 : Int32) (0 : Int32) _ h
noncomputable def fnX6_rename (n : Nat) (S : rvS) (a0 : Nat) (x1 : Int32) (x2 : Int32) : Option rvS :=
  cX6_rename_2 n n S a0 x1 x2 (0 : Int32)
set_option maxRecDepth 20000 in
set_option maxHeartbeats 4000000 in
theorem eX6_rename_in (n : Nat) (S : rvS) (a0 : Nat) (x1 : Int32) (x2 : Int32) (S' : rvS) (h : fnX6_rename n S a0 x1 x2 = some S') : rv_Ev mX6_rename 1 0 [(0, .ref a0), (1, .int x1), (2, .int x2)] [] S none S' := by
  unfold fnX6_rename at h
  refine re_iconst (pc := 0) (0 : Int32) (by decide +kernel : decode cX6_rename 0 = .ok (.iconst 0, 1)) (by decide) ?_
  refine re_istoren (pc := 1) (lv1 := [(3, .int (0 : Int32)), (0, .ref a0), (1, .int x1), (2, .int x2)]) (by decide +kernel : decode cX6_rename 1 = .ok (.istore_n 3, 1)) rfl (by decide) rfl ?_
  refine re_sub [1, 2, 3, 0] (lv1 := [(0, .ref a0), (1, .int x1), (2, .int x2), (3, .int (0 : Int32))]) rfl ?_
  exact eX6_rename_2 n n S a0 x1 x2 (0 : Int32) _ h
theorem metX6_rename (n : Nat) (S : rvS) (a0 : Nat) (x1 : Int32) (x2 : Int32) (S' : rvS) (h : fnX6_rename n S a0 x1 x2 = some S') : rv_Met yX6_rename mX6_rename 1 [.ref a0, .int x1, .int x2] S none S' := rv_Met.of ⟨by decide +kernel, rfl, (fun z => by first | rfl | cases z), rfl⟩ (Nat.le_of_ble_eq_true rfl) rfl (eX6_rename_in n S a0 x1 x2 S' h)
noncomputable def cX7_init_39 (n : Nat) : Nat → rvS → Nat → Int32 → Option rvS
  | 0, _, _, _ => none
  | k + 1, S, a0, x1 =>
    (rv_vl S a0).bind fun _ =>
    if (40 : Int32) ≤ x1 then (
      some S)
    else (
      (rv_gV S 6 a0 0).bind fun a3_ =>
      (rv_uW S a3_ x1 22).bind fun S6_ =>
      rv_lt (x1 + (1)) fun x10_ =>
      cX7_init_39 n k S6_ a0 x10_)
set_option maxRecDepth 20000 in
set_option maxHeartbeats 4000000 in
theorem eX7_init_39 (n : Nat) : ∀ (k : Nat) (S : rvS) (a0 : Nat) (x1 : Int32) (S' : rvS), cX7_init_39 n k S a0 x1 = some S' → rv_Ev mX7_init 1 39 [(0, .ref a0), (1, .int x1)] [] S none S' := by
  intro k
  induction k with
  | zero => intro S a0 x1 S' h; exact absurd h (by simp [cX7_init_39])
  | succ k ih =>
    intro S a0 x1 S' h
    unfold cX7_init_39 at h
    obtain ⟨_, g1_, h⟩ := rv_b_e h
    refine re_iloadn (pc := 39) 1 (by decide +kernel : decode cX7_init 39 = .ok (.iload_n 1, 1)) rfl ?_
    refine re_bipush (pc := 40) (40 : Int32) (by decide +kernel : decode cX7_init 40 = .ok (.bipush 40, 2)) (by decide) ?_
    rcases rv_if_e h with ⟨g2_, h⟩ | ⟨g2_, h⟩
    · refine re_icmp_ge_t (pc := 42) 60 (by decide +kernel : decode cX7_init 42 = .ok (.if_icmp .ge 18, 3)) (by decide) g2_ ?_
      cases h
      exact re_vret (by decide +kernel : decode cX7_init 60 = .ok (.return_, 1))
    · refine re_icmp_ge_f (pc := 42) 60 (by decide +kernel : decode cX7_init 42 = .ok (.if_icmp .ge 18, 3)) (by decide) g2_ ?_
      refine re_aloadn (pc := 45) 0 (by decide +kernel : decode cX7_init 45 = .ok (.aload_n 0, 1)) rfl ?_
      obtain ⟨a3_, g4_, h⟩ := rv_b_e h
      have o5_ := (rv_gV_e g4_).2
      refine re_gR (pc := 46) (rv_gV_e g4_).1 lfX7_13 rfl (by decide +kernel : decode cX7_init 46 = .ok (.getfield 13, 3)) ?_
      refine re_iloadn (pc := 49) 1 (by decide +kernel : decode cX7_init 49 = .ok (.iload_n 1, 1)) rfl ?_
      refine re_getsW (pc := 50) (i := 22) (by decide) (rw1 189 (by decide +kernel) rfl) (by decide +kernel : decode cX7_init 50 = .ok (.getstatic 28, 3)) ?_
      obtain ⟨S6_, g7_, h⟩ := rv_b_e h
      have o8_ : a0 < 64 + S6_.1.length := by rw [rv_uW_sh g7_]; exact (rv_vl_e g1_)
      have o9_ : a3_ < 64 + S6_.1.length := by rw [rv_uW_sh g7_]; exact o5_
      refine re_uW (pc := 53) g7_ (by decide +kernel : decode cX7_init 53 = .ok (.aastore, 1)) ?_
      obtain ⟨x10_, g11_, h⟩ := rv_lt_e h
      refine re_iinc (pc := 54) 1 x10_ (lv1 := [(1, .int x10_), (0, .ref a0)]) (by decide +kernel : decode cX7_init 54 = .ok (.iinc 1 1, 3)) rfl g11_ (by decide) rfl ?_
      refine re_goto (pc := 57) 39 (by decide +kernel : decode cX7_init 57 = .ok (.goto (-18), 3)) (by decide) ?_
      refine re_sub [1, 0] (lv1 := [(0, .ref a0), (1, .int x10_)]) rfl ?_
      exact ih S6_ a0 x10_ _ h
noncomputable def fnX7_init (n : Nat) (S : rvS) (a0 : Nat) : Option rvS :=
  (rv_vl S a0).bind fun _ =>
  rv_lt (64 + S.1.length) fun a2_ =>
  rv_lt (rv_new S (54, 40)) fun S4_ =>
  (rv_pR S4_ 6 a0 0 a2_).bind fun S8_ =>
  rv_lt (64 + S8_.1.length) fun a12_ =>
  rv_lt (rv_new S8_ (50, 40)) fun S14_ =>
  (rv_pR S14_ 6 a0 1 a12_).bind fun S19_ =>
  rv_lt (64 + S19_.1.length) fun a24_ =>
  rv_lt (rv_new S19_ (50, 40)) fun S26_ =>
  (rv_pR S26_ 6 a0 2 a24_).bind fun S32_ =>
  rv_lt (64 + S32_.1.length) fun a38_ =>
  rv_lt (rv_new S32_ (51, 40)) fun S40_ =>
  (rv_pR S40_ 6 a0 3 a38_).bind fun S47_ =>
  cX7_init_39 n n S47_ a0 (0 : Int32)
set_option maxRecDepth 20000 in
set_option maxHeartbeats 4000000 in
theorem eX7_init_in (n : Nat) (S : rvS) (a0 : Nat) (S' : rvS) (h : fnX7_init n S a0 = some S') : rv_Ev mX7_init 1 0 [(0, .ref a0)] [] S none S' := by
  unfold fnX7_init at h
  obtain ⟨_, g1_, h⟩ := rv_b_e h
  refine re_aloadn (pc := 0) 0 (by decide +kernel : decode cX7_init 0 = .ok (.aload_n 0, 1)) rfl ?_
  refine re_obj (pc := 1) (rw1 186 (by decide +kernel) rfl) rwoi rwoc (Nat.le_of_ble_eq_true rfl) (by decide) (by decide +kernel : decode cX7_init 1 = .ok (.invokespecial 5, 3)) ?_
  refine re_aloadn (pc := 4) 0 (by decide +kernel : decode cX7_init 4 = .ok (.aload_n 0, 1)) rfl ?_
  refine re_bipush (pc := 5) (40 : Int32) (by decide +kernel : decode cX7_init 5 = .ok (.bipush 40, 2)) (by decide) ?_
  refine re_newq (pc := 7) (t := 0) (N := 40) rfl (rv_alv (List.forall_mem_cons.mpr ⟨(rv_vl_e g1_), (fun _ z => absurd z List.not_mem_nil)⟩)) ((List.forall_mem_cons.mpr ⟨(rv_vl_e g1_), (fun _ z => absurd z List.not_mem_nil)⟩)) (by decide) rfl (rw1 187 (by decide +kernel) rfl) (by decide) (by decide) (by decide) (by decide +kernel : decode cX7_init 7 = .ok (.anewarray 11, 3)) ?_
  obtain ⟨a2_, g3_, h⟩ := rv_lt_e h
  refine re_nR g3_ ?_
  obtain ⟨S4_, g5_, h⟩ := rv_lt_e h
  refine re_nS g5_ ?_
  have o6_ : a0 < 64 + S4_.1.length := rv_okn g5_ (rv_vl_e g1_)
  have o7_ : a2_ < 64 + S4_.1.length := by rw [← g3_]; exact rv_okn0 g5_
  obtain ⟨S8_, g9_, h⟩ := rv_b_e h
  have o10_ : a0 < 64 + S8_.1.length := by rw [rv_pR_sh g9_]; exact o6_
  have o11_ : a2_ < 64 + S8_.1.length := by rw [rv_pR_sh g9_]; exact o7_
  refine re_pR (pc := 10) g9_ lfX7_13 rfl (Or.inr ⟨rfl, rfl, rfl, (rw1 190 (by decide +kernel) rfl)⟩) (by decide +kernel : decode cX7_init 10 = .ok (.putfield 13, 3)) ?_
  refine re_aloadn (pc := 13) 0 (by decide +kernel : decode cX7_init 13 = .ok (.aload_n 0, 1)) rfl ?_
  refine re_bipush (pc := 14) (40 : Int32) (by decide +kernel : decode cX7_init 14 = .ok (.bipush 40, 2)) (by decide) ?_
  refine re_newa (pc := 16) (t := 0) (N := 40) rfl (rv_alv (List.forall_mem_cons.mpr ⟨o10_, (fun _ z => absurd z List.not_mem_nil)⟩)) ((List.forall_mem_cons.mpr ⟨o10_, (fun _ z => absurd z List.not_mem_nil)⟩)) (by decide) rfl (rw1 137 (by decide +kernel) rfl) (by decide) (by decide) (by decide) (by decide +kernel : decode cX7_init 16 = .ok (.newarray .int, 2)) ?_
  obtain ⟨a12_, g13_, h⟩ := rv_lt_e h
  refine re_nR g13_ ?_
  obtain ⟨S14_, g15_, h⟩ := rv_lt_e h
  refine re_nS g15_ ?_
  have o16_ : a0 < 64 + S14_.1.length := rv_okn g15_ o10_
  have o17_ : a2_ < 64 + S14_.1.length := rv_okn g15_ o11_
  have o18_ : a12_ < 64 + S14_.1.length := by rw [← g13_]; exact rv_okn0 g15_
  obtain ⟨S19_, g20_, h⟩ := rv_b_e h
  have o21_ : a0 < 64 + S19_.1.length := by rw [rv_pR_sh g20_]; exact o16_
  have o22_ : a2_ < 64 + S19_.1.length := by rw [rv_pR_sh g20_]; exact o17_
  have o23_ : a12_ < 64 + S19_.1.length := by rw [rv_pR_sh g20_]; exact o18_
  refine re_pR (pc := 18) g20_ lfX7_17 rfl (Or.inr ⟨rfl, rfl, rfl, (rw1 191 (by decide +kernel) rfl)⟩) (by decide +kernel : decode cX7_init 18 = .ok (.putfield 17, 3)) ?_
  refine re_aloadn (pc := 21) 0 (by decide +kernel : decode cX7_init 21 = .ok (.aload_n 0, 1)) rfl ?_
  refine re_bipush (pc := 22) (40 : Int32) (by decide +kernel : decode cX7_init 22 = .ok (.bipush 40, 2)) (by decide) ?_
  refine re_newa (pc := 24) (t := 0) (N := 40) rfl (rv_alv (List.forall_mem_cons.mpr ⟨o21_, (fun _ z => absurd z List.not_mem_nil)⟩)) ((List.forall_mem_cons.mpr ⟨o21_, (fun _ z => absurd z List.not_mem_nil)⟩)) (by decide) rfl (rw1 137 (by decide +kernel) rfl) (by decide) (by decide) (by decide) (by decide +kernel : decode cX7_init 24 = .ok (.newarray .int, 2)) ?_
  obtain ⟨a24_, g25_, h⟩ := rv_lt_e h
  refine re_nR g25_ ?_
  obtain ⟨S26_, g27_, h⟩ := rv_lt_e h
  refine re_nS g27_ ?_
  have o28_ : a0 < 64 + S26_.1.length := rv_okn g27_ o21_
  have o29_ : a2_ < 64 + S26_.1.length := rv_okn g27_ o22_
  have o30_ : a12_ < 64 + S26_.1.length := rv_okn g27_ o23_
  have o31_ : a24_ < 64 + S26_.1.length := by rw [← g25_]; exact rv_okn0 g27_
  obtain ⟨S32_, g33_, h⟩ := rv_b_e h
  have o34_ : a0 < 64 + S32_.1.length := by rw [rv_pR_sh g33_]; exact o28_
  have o35_ : a2_ < 64 + S32_.1.length := by rw [rv_pR_sh g33_]; exact o29_
  have o36_ : a12_ < 64 + S32_.1.length := by rw [rv_pR_sh g33_]; exact o30_
  have o37_ : a24_ < 64 + S32_.1.length := by rw [rv_pR_sh g33_]; exact o31_
  refine re_pR (pc := 26) g33_ lfX7_21 rfl (Or.inr ⟨rfl, rfl, rfl, (rw1 192 (by decide +kernel) rfl)⟩) (by decide +kernel : decode cX7_init 26 = .ok (.putfield 21, 3)) ?_
  refine re_aloadn (pc := 29) 0 (by decide +kernel : decode cX7_init 29 = .ok (.aload_n 0, 1)) rfl ?_
  refine re_bipush (pc := 30) (40 : Int32) (by decide +kernel : decode cX7_init 30 = .ok (.bipush 40, 2)) (by decide) ?_
  refine re_newa (pc := 32) (t := 1) (N := 40) rfl (rv_alv (List.forall_mem_cons.mpr ⟨o34_, (fun _ z => absurd z List.not_mem_nil)⟩)) ((List.forall_mem_cons.mpr ⟨o34_, (fun _ z => absurd z List.not_mem_nil)⟩)) (by decide) rfl (rw1 138 (by decide +kernel) rfl) (by decide) (by decide) (by decide) (by decide +kernel : decode cX7_init 32 = .ok (.newarray .long, 2)) ?_
  obtain ⟨a38_, g39_, h⟩ := rv_lt_e h
  refine re_nR g39_ ?_
  obtain ⟨S40_, g41_, h⟩ := rv_lt_e h
  refine re_nS g41_ ?_
  have o42_ : a0 < 64 + S40_.1.length := rv_okn g41_ o34_
  have o43_ : a2_ < 64 + S40_.1.length := rv_okn g41_ o35_
  have o44_ : a12_ < 64 + S40_.1.length := rv_okn g41_ o36_
  have o45_ : a24_ < 64 + S40_.1.length := rv_okn g41_ o37_
  have o46_ : a38_ < 64 + S40_.1.length := by rw [← g39_]; exact rv_okn0 g41_
  obtain ⟨S47_, g48_, h⟩ := rv_b_e h
  have o49_ : a0 < 64 + S47_.1.length := by rw [rv_pR_sh g48_]; exact o42_
  have o50_ : a2_ < 64 + S47_.1.length := by rw [rv_pR_sh g48_]; exact o43_
  have o51_ : a12_ < 64 + S47_.1.length := by rw [rv_pR_sh g48_]; exact o44_
  have o52_ : a24_ < 64 + S47_.1.length := by rw [rv_pR_sh g48_]; exact o45_
  have o53_ : a38_ < 64 + S47_.1.length := by rw [rv_pR_sh g48_]; exact o46_
  refine re_pR (pc := 34) g48_ lfX7_24 rfl (Or.inr ⟨rfl, rfl, rfl, (rw1 193 (by decide +kernel) rfl)⟩) (by decide +kernel : decode cX7_init 34 = .ok (.putfield 24, 3)) ?_
  refine re_iconst (pc := 37) (0 : Int32) (by decide +kernel : decode cX7_init 37 = .ok (.iconst 0, 1)) (by decide) ?_
  refine re_istoren (pc := 38) (lv1 := [(1, .int (0 : Int32)), (0, .ref a0)]) (by decide +kernel : decode cX7_init 38 = .ok (.istore_n 1, 1)) rfl (by decide) rfl ?_
  refine re_sub [1, 0] (lv1 := [(0, .ref a0), (1, .int (0 : Int32))]) rfl ?_
  exact eX7_init_39 n n S47_ a0 (0 : Int32) _ h
theorem metX7_init (n : Nat) (S : rvS) (a0 : Nat) (S' : rvS) (h : fnX7_init n S a0 = some S') : rv_Met yX7_init mX7_init 1 [.ref a0] S none S' := rv_Met.of ⟨by decide +kernel, rfl, (fun z => by first | rfl | cases z), rfl⟩ (Nat.le_of_ble_eq_true rfl) rfl (eX7_init_in n S a0 S' h)
noncomputable def fnX7_forget (n : Nat) (S : rvS) (a0 : Nat) : Option rvS :=
  (rv_pI S 6 a0 4 (0 : Int32)).bind fun S1_ =>
  (rv_pI S1_ 6 a0 5 (0 : Int32)).bind fun S3_ =>
  some S3_
set_option maxRecDepth 20000 in
set_option maxHeartbeats 4000000 in
theorem eX7_forget_in (n : Nat) (S : rvS) (a0 : Nat) (S' : rvS) (h : fnX7_forget n S a0 = some S') : rv_Ev mX7_forget 0 0 [(0, .ref a0)] [] S none S' := by
  unfold fnX7_forget at h
  refine re_aloadn (pc := 0) 0 (by decide +kernel : decode cX7_forget 0 = .ok (.aload_n 0, 1)) rfl ?_
  refine re_iconst (pc := 1) (0 : Int32) (by decide +kernel : decode cX7_forget 1 = .ok (.iconst 0, 1)) (by decide) ?_
  obtain ⟨S1_, g2_, h⟩ := rv_b_e h
  refine re_pI (pc := 2) g2_ lfX7_32 rfl rfl rfl rfl (by decide +kernel : decode cX7_forget 2 = .ok (.putfield 32, 3)) ?_
  refine re_aloadn (pc := 5) 0 (by decide +kernel : decode cX7_forget 5 = .ok (.aload_n 0, 1)) rfl ?_
  refine re_iconst (pc := 6) (0 : Int32) (by decide +kernel : decode cX7_forget 6 = .ok (.iconst 0, 1)) (by decide) ?_
  obtain ⟨S3_, g4_, h⟩ := rv_b_e h
  refine re_pI (pc := 7) g4_ lfX7_36 rfl rfl rfl rfl (by decide +kernel : decode cX7_forget 7 = .ok (.putfield 36, 3)) ?_
  cases h
  exact re_vret (by decide +kernel : decode cX7_forget 10 = .ok (.return_, 1))
theorem metX7_forget (n : Nat) (S : rvS) (a0 : Nat) (S' : rvS) (h : fnX7_forget n S a0 = some S') : rv_Met yX7_forget mX7_forget 0 [.ref a0] S none S' := rv_Met.of ⟨by decide +kernel, rfl, (fun z => by first | rfl | cases z), rfl⟩ (Nat.le_of_ble_eq_true rfl) rfl (eX7_forget_in n S a0 S' h)
noncomputable def cX7_copyFrom_58 (n : Nat) (S : rvS) (a0 : Nat) (a1 : Nat) : Option rvS :=
  (rv_gI S 6 a1 4).bind fun x1_ =>
  (rv_pI S 6 a0 4 x1_).bind fun S3_ =>
  (rv_gI S3_ 6 a1 5).bind fun x5_ =>
  (rv_pI S3_ 6 a0 5 x5_).bind fun S7_ =>
  some S7_
set_option maxRecDepth 20000 in
set_option maxHeartbeats 4000000 in
theorem eX7_copyFrom_58 (n : Nat) (S : rvS) (a0 : Nat) (a1 : Nat) (S' : rvS) (h : cX7_copyFrom_58 n S a0 a1 = some S') : rv_Ev mX7_copyFrom 0 58 [(0, .ref a0), (1, .ref a1)] [] S none S' := by
  unfold cX7_copyFrom_58 at h
  refine re_aloadn (pc := 58) 0 (by decide +kernel : decode cX7_copyFrom 58 = .ok (.aload_n 0, 1)) rfl ?_
  refine re_aloadn (pc := 59) 1 (by decide +kernel : decode cX7_copyFrom 59 = .ok (.aload_n 1, 1)) rfl ?_
  obtain ⟨x1_, g2_, h⟩ := rv_b_e h
  refine re_gI (pc := 60) g2_ lfX7_32 rfl (by decide +kernel : decode cX7_copyFrom 60 = .ok (.getfield 32, 3)) ?_
  obtain ⟨S3_, g4_, h⟩ := rv_b_e h
  refine re_pI (pc := 63) g4_ lfX7_32 rfl rfl rfl rfl (by decide +kernel : decode cX7_copyFrom 63 = .ok (.putfield 32, 3)) ?_
  refine re_aloadn (pc := 66) 0 (by decide +kernel : decode cX7_copyFrom 66 = .ok (.aload_n 0, 1)) rfl ?_
  refine re_aloadn (pc := 67) 1 (by decide +kernel : decode cX7_copyFrom 67 = .ok (.aload_n 1, 1)) rfl ?_
  obtain ⟨x5_, g6_, h⟩ := rv_b_e h
  refine re_gI (pc := 68) g6_ lfX7_36 rfl (by decide +kernel : decode cX7_copyFrom 68 = .ok (.getfield 36, 3)) ?_
  obtain ⟨S7_, g8_, h⟩ := rv_b_e h
  refine re_pI (pc := 71) g8_ lfX7_36 rfl rfl rfl rfl (by decide +kernel : decode cX7_copyFrom 71 = .ok (.putfield 36, 3)) ?_
  cases h
  exact re_vret (by decide +kernel : decode cX7_copyFrom 74 = .ok (.return_, 1))
noncomputable def cX7_copyFrom_2 (n : Nat) : Nat → rvS → Nat → Nat → Int32 → Option rvS
  | 0, _, _, _, _ => none
  | k + 1, S, a0, a1, x2 =>
    (rv_gI S 6 a1 4).bind fun x1_ =>
    if x1_ ≤ x2 then (
      cX7_copyFrom_58 n S a0 a1)
    else (
      if (40 : Int32) ≤ x2 then (
        cX7_copyFrom_58 n S a0 a1)
      else (
        (rv_gR S 6 a0 0).bind fun a5_ =>
        (rv_gR S 6 a1 0).bind fun a7_ =>
        (rv_aR S 4 a7_ x2).bind fun a9_ =>
        (rv_uW S a5_ x2 a9_).bind fun S11_ =>
        (rv_gR S11_ 6 a0 1).bind fun a13_ =>
        (rv_gR S11_ 6 a1 1).bind fun a15_ =>
        (rv_aI S11_ 0 a15_ x2).bind fun x17_ =>
        (rv_uI S11_ a13_ x2 x17_).bind fun S19_ =>
        (rv_gR S19_ 6 a0 2).bind fun a21_ =>
        (rv_gR S19_ 6 a1 2).bind fun a23_ =>
        (rv_aI S19_ 0 a23_ x2).bind fun x25_ =>
        (rv_uI S19_ a21_ x2 x25_).bind fun S27_ =>
        rv_lt (x2 + (1)) fun x29_ =>
        cX7_copyFrom_2 n k S27_ a0 a1 x29_))
set_option maxRecDepth 20000 in
set_option maxHeartbeats 4000000 in
theorem eX7_copyFrom_2 (n : Nat) : ∀ (k : Nat) (S : rvS) (a0 : Nat) (a1 : Nat) (x2 : Int32) (S' : rvS), cX7_copyFrom_2 n k S a0 a1 x2 = some S' → rv_Ev mX7_copyFrom 0 2 [(0, .ref a0), (1, .ref a1), (2, .int x2)] [] S none S' := by
  intro k
  induction k with
  | zero => intro S a0 a1 x2 S' h; exact absurd h (by simp [cX7_copyFrom_2])
  | succ k ih =>
    intro S a0 a1 x2 S' h
    unfold cX7_copyFrom_2 at h
    refine re_iloadn (pc := 2) 2 (by decide +kernel : decode cX7_copyFrom 2 = .ok (.iload_n 2, 1)) rfl ?_
    refine re_aloadn (pc := 3) 1 (by decide +kernel : decode cX7_copyFrom 3 = .ok (.aload_n 1, 1)) rfl ?_
    obtain ⟨x1_, g2_, h⟩ := rv_b_e h
    refine re_gI (pc := 4) g2_ lfX7_32 rfl (by decide +kernel : decode cX7_copyFrom 4 = .ok (.getfield 32, 3)) ?_
    rcases rv_if_e h with ⟨g3_, h⟩ | ⟨g3_, h⟩
    · refine re_icmp_ge_t (pc := 7) 58 (by decide +kernel : decode cX7_copyFrom 7 = .ok (.if_icmp .ge 51, 3)) (by decide) g3_ ?_
      refine re_sub [0, 1] (lv1 := [(0, .ref a0), (1, .ref a1)]) rfl ?_
      exact eX7_copyFrom_58 n S a0 a1 _ h
    · refine re_icmp_ge_f (pc := 7) 58 (by decide +kernel : decode cX7_copyFrom 7 = .ok (.if_icmp .ge 51, 3)) (by decide) g3_ ?_
      refine re_iloadn (pc := 10) 2 (by decide +kernel : decode cX7_copyFrom 10 = .ok (.iload_n 2, 1)) rfl ?_
      refine re_bipush (pc := 11) (40 : Int32) (by decide +kernel : decode cX7_copyFrom 11 = .ok (.bipush 40, 2)) (by decide) ?_
      rcases rv_if_e h with ⟨g4_, h⟩ | ⟨g4_, h⟩
      · refine re_icmp_ge_t (pc := 13) 58 (by decide +kernel : decode cX7_copyFrom 13 = .ok (.if_icmp .ge 45, 3)) (by decide) g4_ ?_
        refine re_sub [0, 1] (lv1 := [(0, .ref a0), (1, .ref a1)]) rfl ?_
        exact eX7_copyFrom_58 n S a0 a1 _ h
      · refine re_icmp_ge_f (pc := 13) 58 (by decide +kernel : decode cX7_copyFrom 13 = .ok (.if_icmp .ge 45, 3)) (by decide) g4_ ?_
        refine re_aloadn (pc := 16) 0 (by decide +kernel : decode cX7_copyFrom 16 = .ok (.aload_n 0, 1)) rfl ?_
        obtain ⟨a5_, g6_, h⟩ := rv_b_e h
        refine re_gR (pc := 17) g6_ lfX7_13 rfl (by decide +kernel : decode cX7_copyFrom 17 = .ok (.getfield 13, 3)) ?_
        refine re_iloadn (pc := 20) 2 (by decide +kernel : decode cX7_copyFrom 20 = .ok (.iload_n 2, 1)) rfl ?_
        refine re_aloadn (pc := 21) 1 (by decide +kernel : decode cX7_copyFrom 21 = .ok (.aload_n 1, 1)) rfl ?_
        obtain ⟨a7_, g8_, h⟩ := rv_b_e h
        refine re_gR (pc := 22) g8_ lfX7_13 rfl (by decide +kernel : decode cX7_copyFrom 22 = .ok (.getfield 13, 3)) ?_
        refine re_iloadn (pc := 25) 2 (by decide +kernel : decode cX7_copyFrom 25 = .ok (.iload_n 2, 1)) rfl ?_
        obtain ⟨a9_, g10_, h⟩ := rv_b_e h
        refine re_aR (pc := 26) (t := 0) (by decide) g10_ (by decide +kernel : decode cX7_copyFrom 26 = .ok (.aaload, 1)) ?_
        obtain ⟨S11_, g12_, h⟩ := rv_b_e h
        refine re_uW (pc := 27) g12_ (by decide +kernel : decode cX7_copyFrom 27 = .ok (.aastore, 1)) ?_
        refine re_aloadn (pc := 28) 0 (by decide +kernel : decode cX7_copyFrom 28 = .ok (.aload_n 0, 1)) rfl ?_
        obtain ⟨a13_, g14_, h⟩ := rv_b_e h
        refine re_gR (pc := 29) g14_ lfX7_17 rfl (by decide +kernel : decode cX7_copyFrom 29 = .ok (.getfield 17, 3)) ?_
        refine re_iloadn (pc := 32) 2 (by decide +kernel : decode cX7_copyFrom 32 = .ok (.iload_n 2, 1)) rfl ?_
        refine re_aloadn (pc := 33) 1 (by decide +kernel : decode cX7_copyFrom 33 = .ok (.aload_n 1, 1)) rfl ?_
        obtain ⟨a15_, g16_, h⟩ := rv_b_e h
        refine re_gR (pc := 34) g16_ lfX7_17 rfl (by decide +kernel : decode cX7_copyFrom 34 = .ok (.getfield 17, 3)) ?_
        refine re_iloadn (pc := 37) 2 (by decide +kernel : decode cX7_copyFrom 37 = .ok (.iload_n 2, 1)) rfl ?_
        obtain ⟨x17_, g18_, h⟩ := rv_b_e h
        refine re_aI (pc := 38) g18_ (by decide +kernel : decode cX7_copyFrom 38 = .ok (.iaload, 1)) ?_
        obtain ⟨S19_, g20_, h⟩ := rv_b_e h
        refine re_uI (pc := 39) g20_ (by decide +kernel : decode cX7_copyFrom 39 = .ok (.iastore, 1)) ?_
        refine re_aloadn (pc := 40) 0 (by decide +kernel : decode cX7_copyFrom 40 = .ok (.aload_n 0, 1)) rfl ?_
        obtain ⟨a21_, g22_, h⟩ := rv_b_e h
        refine re_gR (pc := 41) g22_ lfX7_21 rfl (by decide +kernel : decode cX7_copyFrom 41 = .ok (.getfield 21, 3)) ?_
        refine re_iloadn (pc := 44) 2 (by decide +kernel : decode cX7_copyFrom 44 = .ok (.iload_n 2, 1)) rfl ?_
        refine re_aloadn (pc := 45) 1 (by decide +kernel : decode cX7_copyFrom 45 = .ok (.aload_n 1, 1)) rfl ?_
        obtain ⟨a23_, g24_, h⟩ := rv_b_e h
        refine re_gR (pc := 46) g24_ lfX7_21 rfl (by decide +kernel : decode cX7_copyFrom 46 = .ok (.getfield 21, 3)) ?_
        refine re_iloadn (pc := 49) 2 (by decide +kernel : decode cX7_copyFrom 49 = .ok (.iload_n 2, 1)) rfl ?_
        obtain ⟨x25_, g26_, h⟩ := rv_b_e h
        refine re_aI (pc := 50) g26_ (by decide +kernel : decode cX7_copyFrom 50 = .ok (.iaload, 1)) ?_
        obtain ⟨S27_, g28_, h⟩ := rv_b_e h
        refine re_uI (pc := 51) g28_ (by decide +kernel : decode cX7_copyFrom 51 = .ok (.iastore, 1)) ?_
        obtain ⟨x29_, g30_, h⟩ := rv_lt_e h
        refine re_iinc (pc := 52) 2 x29_ (lv1 := [(2, .int x29_), (0, .ref a0), (1, .ref a1)]) (by decide +kernel : decode cX7_copyFrom 52 = .ok (.iinc 2 1, 3)) rfl g30_ (by decide) rfl ?_
        refine re_goto (pc := 55) 2 (by decide +kernel : decode cX7_copyFrom 55 = .ok (.goto (-53), 3)) (by decide) ?_
        refine re_sub [1, 2, 0] (lv1 := [(0, .ref a0), (1, .ref a1), (2, .int x29_)]) rfl ?_
        exact ih S27_ a0 a1 x29_ _ h
noncomputable def fnX7_copyFrom (n : Nat) (S : rvS) (a0 : Nat) (a1 : Nat) : Option rvS :=
  cX7_copyFrom_2 n n S a0 a1 (0 : Int32)
set_option maxRecDepth 20000 in
set_option maxHeartbeats 4000000 in
theorem eX7_copyFrom_in (n : Nat) (S : rvS) (a0 : Nat) (a1 : Nat) (S' : rvS) (h : fnX7_copyFrom n S a0 a1 = some S') : rv_Ev mX7_copyFrom 0 0 [(0, .ref a0), (1, .ref a1)] [] S none S' := by
  unfold fnX7_copyFrom at h
  refine re_iconst (pc := 0) (0 : Int32) (by decide +kernel : decode cX7_copyFrom 0 = .ok (.iconst 0, 1)) (by decide) ?_
  refine re_istoren (pc := 1) (lv1 := [(2, .int (0 : Int32)), (0, .ref a0), (1, .ref a1)]) (by decide +kernel : decode cX7_copyFrom 1 = .ok (.istore_n 2, 1)) rfl (by decide) rfl ?_
  refine re_sub [1, 2, 0] (lv1 := [(0, .ref a0), (1, .ref a1), (2, .int (0 : Int32))]) rfl ?_
  exact eX7_copyFrom_2 n n S a0 a1 (0 : Int32) _ h
theorem metX7_copyFrom (n : Nat) (S : rvS) (a0 : Nat) (a1 : Nat) (S' : rvS) (h : fnX7_copyFrom n S a0 a1 = some S') : rv_Met yX7_copyFrom mX7_copyFrom 0 [.ref a0, .ref a1] S none S' := rv_Met.of ⟨by decide +kernel, rfl, (fun z => by first | rfl | cases z), rfl⟩ (Nat.le_of_ble_eq_true rfl) rfl (eX7_copyFrom_in n S a0 a1 S' h)
noncomputable def fnX7_startsOne (n : Nat) (S : rvS) (a0 : Nat) : Option Int32 :=
  (rv_gI S 7 a0 4).bind fun x1_ =>
  if x1_ = (2 : Int32) then (
    (rv_gR S 7 a0 8).bind fun a4_ =>
    (rv_wd a4_).bind fun u6_ =>
    (rv_ix 23 (Int32.ofNat a4_)).bind fun j8_ =>
    rv_lt (rv_sw j8_) fun x11_ =>
    if x11_ = 9 then (
      some (1 : Int32))
    else (
      if x11_ = 10 then (
        some (1 : Int32))
      else (
        if x11_ = 11 then (
          some (1 : Int32))
        else (
          if x11_ = 12 then (
            some (1 : Int32))
          else (
            if x11_ = 13 then (
              some (1 : Int32))
            else (
              if x11_ = 14 then (
                some (1 : Int32))
              else (
                if x11_ = 15 then (
                  some (1 : Int32))
                else (
                  if x11_ = 16 then (
                    some (1 : Int32))
                  else (
                    if x11_ = 17 then (
                      some (1 : Int32))
                    else (
                      some (0 : Int32)))))))))))
  else (
    (rv_gI S 7 a0 4).bind fun x22_ =>
    if x22_ = (40 : Int32) then (
      some (1 : Int32))
    else (
      some (0 : Int32)))
set_option maxRecDepth 20000 in
set_option maxHeartbeats 4000000 in
theorem eX7_startsOne_in (n : Nat) (S : rvS) (a0 : Nat) (r : Int32) (h : fnX7_startsOne n S a0 = some r) : rv_Ev mX7_startsOne 1 0 [(0, .ref a0)] [] S (some (.int r)) S := by
  unfold fnX7_startsOne at h
  refine re_aloadn (pc := 0) 0 (by decide +kernel : decode cX7_startsOne 0 = .ok (.aload_n 0, 1)) rfl ?_
  obtain ⟨x1_, g2_, h⟩ := rv_b_e h
  refine re_gI (pc := 1) g2_ lfX7_46 rfl (by decide +kernel : decode cX7_startsOne 1 = .ok (.getfield 46, 3)) ?_
  refine re_iconst (pc := 4) (2 : Int32) (by decide +kernel : decode cX7_startsOne 4 = .ok (.iconst 2, 1)) (by decide) ?_
  rcases rv_if_e h with ⟨g3_, h⟩ | ⟨g3_, h⟩
  · refine re_icmp_eq_t (pc := 5) 23 (by decide +kernel : decode cX7_startsOne 5 = .ok (.if_icmp .eq 18, 3)) (by decide) g3_ ?_
    refine re_getsS (pc := 23) (rw6 49 (by decide +kernel) rfl) (by decide +kernel : decode cX7_startsOne 23 = .ok (.getstatic 88, 3)) ?_
    refine re_aloadn (pc := 26) 0 (by decide +kernel : decode cX7_startsOne 26 = .ok (.aload_n 0, 1)) rfl ?_
    obtain ⟨a4_, g5_, h⟩ := rv_b_e h
    refine re_gR (pc := 27) g5_ lfX7_85 rfl (by decide +kernel : decode cX7_startsOne 27 = .ok (.getfield 85, 3)) ?_
    obtain ⟨u6_, g7_, h⟩ := rv_b_e h
    refine re_ord (pc := 30) (rv_wd_e g7_) (rw6 50 (by decide +kernel) rfl) (by decide) (Nat.le_of_ble_eq_true rfl) (by decide +kernel : decode cX7_startsOne 30 = .ok (.invokevirtual 93, 3)) ?_
    obtain ⟨j8_, g9_, h⟩ := rv_b_e h
    have z10_ := rv_ix_e g9_
    refine re_aldS (pc := 33) z10_.1 (by decide +kernel : decode cX7_startsOne 33 = .ok (.iaload, 1)) ?_
    refine re_nI (congrArg rv_sw z10_.2.symm) ?_
    obtain ⟨x11_, g12_, h⟩ := rv_lt_e h
    refine re_nI (pc := 34) g12_ ?_
    rcases rv_if_e h with ⟨g13_, h⟩ | ⟨g13_, h⟩
    · refine re_tabInE (pc := 34) (off := 50) 84 (by decide +kernel : decode cX7_startsOne 34 = .ok (.tableswitch 52 9 17 #[50, 50, 50, 50, 50, 50, 50, 50, 50], 50)) g13_ (by decide) (by decide) (by decide) (by decide) ?_
      refine re_iconst (pc := 84) (1 : Int32) (by decide +kernel : decode cX7_startsOne 84 = .ok (.iconst 1, 1)) (by decide) ?_
      cases h
      exact re_iret (fun ty hty => by cases hty; rfl) (by decide +kernel : decode cX7_startsOne 85 = .ok (.ireturn, 1))
    · skip
      rcases rv_if_e h with ⟨g14_, h⟩ | ⟨g14_, h⟩
      · refine re_tabInE (pc := 34) (off := 50) 84 (by decide +kernel : decode cX7_startsOne 34 = .ok (.tableswitch 52 9 17 #[50, 50, 50, 50, 50, 50, 50, 50, 50], 50)) g14_ (by decide) (by decide) (by decide) (by decide) ?_
        refine re_iconst (pc := 84) (1 : Int32) (by decide +kernel : decode cX7_startsOne 84 = .ok (.iconst 1, 1)) (by decide) ?_
        cases h
        exact re_iret (fun ty hty => by cases hty; rfl) (by decide +kernel : decode cX7_startsOne 85 = .ok (.ireturn, 1))
      · skip
        rcases rv_if_e h with ⟨g15_, h⟩ | ⟨g15_, h⟩
        · refine re_tabInE (pc := 34) (off := 50) 84 (by decide +kernel : decode cX7_startsOne 34 = .ok (.tableswitch 52 9 17 #[50, 50, 50, 50, 50, 50, 50, 50, 50], 50)) g15_ (by decide) (by decide) (by decide) (by decide) ?_
          refine re_iconst (pc := 84) (1 : Int32) (by decide +kernel : decode cX7_startsOne 84 = .ok (.iconst 1, 1)) (by decide) ?_
          cases h
          exact re_iret (fun ty hty => by cases hty; rfl) (by decide +kernel : decode cX7_startsOne 85 = .ok (.ireturn, 1))
        · skip
          rcases rv_if_e h with ⟨g16_, h⟩ | ⟨g16_, h⟩
          · refine re_tabInE (pc := 34) (off := 50) 84 (by decide +kernel : decode cX7_startsOne 34 = .ok (.tableswitch 52 9 17 #[50, 50, 50, 50, 50, 50, 50, 50, 50], 50)) g16_ (by decide) (by decide) (by decide) (by decide) ?_
            refine re_iconst (pc := 84) (1 : Int32) (by decide +kernel : decode cX7_startsOne 84 = .ok (.iconst 1, 1)) (by decide) ?_
            cases h
            exact re_iret (fun ty hty => by cases hty; rfl) (by decide +kernel : decode cX7_startsOne 85 = .ok (.ireturn, 1))
          · skip
            rcases rv_if_e h with ⟨g17_, h⟩ | ⟨g17_, h⟩
            · refine re_tabInE (pc := 34) (off := 50) 84 (by decide +kernel : decode cX7_startsOne 34 = .ok (.tableswitch 52 9 17 #[50, 50, 50, 50, 50, 50, 50, 50, 50], 50)) g17_ (by decide) (by decide) (by decide) (by decide) ?_
              refine re_iconst (pc := 84) (1 : Int32) (by decide +kernel : decode cX7_startsOne 84 = .ok (.iconst 1, 1)) (by decide) ?_
              cases h
              exact re_iret (fun ty hty => by cases hty; rfl) (by decide +kernel : decode cX7_startsOne 85 = .ok (.ireturn, 1))
            · skip
              rcases rv_if_e h with ⟨g18_, h⟩ | ⟨g18_, h⟩
              · refine re_tabInE (pc := 34) (off := 50) 84 (by decide +kernel : decode cX7_startsOne 34 = .ok (.tableswitch 52 9 17 #[50, 50, 50, 50, 50, 50, 50, 50, 50], 50)) g18_ (by decide) (by decide) (by decide) (by decide) ?_
                refine re_iconst (pc := 84) (1 : Int32) (by decide +kernel : decode cX7_startsOne 84 = .ok (.iconst 1, 1)) (by decide) ?_
                cases h
                exact re_iret (fun ty hty => by cases hty; rfl) (by decide +kernel : decode cX7_startsOne 85 = .ok (.ireturn, 1))
              · skip
                rcases rv_if_e h with ⟨g19_, h⟩ | ⟨g19_, h⟩
                · refine re_tabInE (pc := 34) (off := 50) 84 (by decide +kernel : decode cX7_startsOne 34 = .ok (.tableswitch 52 9 17 #[50, 50, 50, 50, 50, 50, 50, 50, 50], 50)) g19_ (by decide) (by decide) (by decide) (by decide) ?_
                  refine re_iconst (pc := 84) (1 : Int32) (by decide +kernel : decode cX7_startsOne 84 = .ok (.iconst 1, 1)) (by decide) ?_
                  cases h
                  exact re_iret (fun ty hty => by cases hty; rfl) (by decide +kernel : decode cX7_startsOne 85 = .ok (.ireturn, 1))
                · skip
                  rcases rv_if_e h with ⟨g20_, h⟩ | ⟨g20_, h⟩
                  · refine re_tabInE (pc := 34) (off := 50) 84 (by decide +kernel : decode cX7_startsOne 34 = .ok (.tableswitch 52 9 17 #[50, 50, 50, 50, 50, 50, 50, 50, 50], 50)) g20_ (by decide) (by decide) (by decide) (by decide) ?_
                    refine re_iconst (pc := 84) (1 : Int32) (by decide +kernel : decode cX7_startsOne 84 = .ok (.iconst 1, 1)) (by decide) ?_
                    cases h
                    exact re_iret (fun ty hty => by cases hty; rfl) (by decide +kernel : decode cX7_startsOne 85 = .ok (.ireturn, 1))
                  · skip
                    rcases rv_if_e h with ⟨g21_, h⟩ | ⟨g21_, h⟩
                    · refine re_tabInE (pc := 34) (off := 50) 84 (by decide +kernel : decode cX7_startsOne 34 = .ok (.tableswitch 52 9 17 #[50, 50, 50, 50, 50, 50, 50, 50, 50], 50)) g21_ (by decide) (by decide) (by decide) (by decide) ?_
                      refine re_iconst (pc := 84) (1 : Int32) (by decide +kernel : decode cX7_startsOne 84 = .ok (.iconst 1, 1)) (by decide) ?_
                      cases h
                      exact re_iret (fun ty hty => by cases hty; rfl) (by decide +kernel : decode cX7_startsOne 85 = .ok (.ireturn, 1))
                    · skip
                      refine re_tabOut (pc := 34) (dflt := 52) 86 (by decide +kernel : decode cX7_startsOne 34 = .ok (.tableswitch 52 9 17 #[50, 50, 50, 50, 50, 50, 50, 50, 50], 50)) (by have z0_ := lv_neT g13_ (a := 9) (by decide); have z1_ := lv_neT g14_ (a := 10) (by decide); have z2_ := lv_neT g15_ (a := 11) (by decide); have z3_ := lv_neT g16_ (a := 12) (by decide); have z4_ := lv_neT g17_ (a := 13) (by decide); have z5_ := lv_neT g18_ (a := 14) (by decide); have z6_ := lv_neT g19_ (a := 15) (by decide); have z7_ := lv_neT g20_ (a := 16) (by decide); have z8_ := lv_neT g21_ (a := 17) (by decide); omega) (by decide) ?_
                      refine re_iconst (pc := 86) (0 : Int32) (by decide +kernel : decode cX7_startsOne 86 = .ok (.iconst 0, 1)) (by decide) ?_
                      cases h
                      exact re_iret (fun ty hty => by cases hty; rfl) (by decide +kernel : decode cX7_startsOne 87 = .ok (.ireturn, 1))
  · refine re_icmp_eq_f (pc := 5) 23 (by decide +kernel : decode cX7_startsOne 5 = .ok (.if_icmp .eq 18, 3)) (by decide) g3_ ?_
    refine re_aloadn (pc := 8) 0 (by decide +kernel : decode cX7_startsOne 8 = .ok (.aload_n 0, 1)) rfl ?_
    obtain ⟨x22_, g23_, h⟩ := rv_b_e h
    refine re_gI (pc := 9) g23_ lfX7_46 rfl (by decide +kernel : decode cX7_startsOne 9 = .ok (.getfield 46, 3)) ?_
    refine re_bipush (pc := 12) (40 : Int32) (by decide +kernel : decode cX7_startsOne 12 = .ok (.bipush 40, 2)) (by decide) ?_
    rcases rv_if_e h with ⟨g24_, h⟩ | ⟨g24_, h⟩
    · refine re_icmp_ne_f (pc := 14) 21 (by decide +kernel : decode cX7_startsOne 14 = .ok (.if_icmp .ne 7, 3)) (by decide) g24_ ?_
      refine re_iconst (pc := 17) (1 : Int32) (by decide +kernel : decode cX7_startsOne 17 = .ok (.iconst 1, 1)) (by decide) ?_
      refine re_goto (pc := 18) 22 (by decide +kernel : decode cX7_startsOne 18 = .ok (.goto 4, 3)) (by decide) ?_
      cases h
      exact re_iret (fun ty hty => by cases hty; rfl) (by decide +kernel : decode cX7_startsOne 22 = .ok (.ireturn, 1))
    · refine re_icmp_ne_t (pc := 14) 21 (by decide +kernel : decode cX7_startsOne 14 = .ok (.if_icmp .ne 7, 3)) (by decide) g24_ ?_
      refine re_iconst (pc := 21) (0 : Int32) (by decide +kernel : decode cX7_startsOne 21 = .ok (.iconst 0, 1)) (by decide) ?_
      cases h
      exact re_iret (fun ty hty => by cases hty; rfl) (by decide +kernel : decode cX7_startsOne 22 = .ok (.ireturn, 1))
theorem metX7_startsOne (n : Nat) (S : rvS) (a0 : Nat) (r : Int32) (h : fnX7_startsOne n S a0 = some r) : rv_Met yX7_startsOne mX7_startsOne 1 [.ref a0] S (some (.int r)) S := rv_Met.of ⟨by decide +kernel, rfl, (fun z => by first | rfl | cases z), rfl⟩ (Nat.le_of_ble_eq_true rfl) rfl (eX7_startsOne_in n S a0 r h)
noncomputable def fnX8_fail (n : Nat) (S : rvS) (a0 : Nat) (x1 : Int32) : Option (Int32 × rvS) :=
  (rv_pI S 7 a0 9 x1).bind fun S1_ =>
  (rv_gI S1_ 7 a0 5).bind fun x3_ =>
  (rv_pI S1_ 7 a0 10 x3_).bind fun S5_ =>
  some ((0 : Int32), S5_)
set_option maxRecDepth 20000 in
set_option maxHeartbeats 4000000 in
theorem eX8_fail_in (n : Nat) (S : rvS) (a0 : Nat) (x1 : Int32) (r : Int32) (S' : rvS) (h : fnX8_fail n S a0 x1 = some (r, S')) : rv_Ev mX8_fail 0 0 [(0, .ref a0), (1, .int x1)] [] S (some (.int r)) S' := by
  unfold fnX8_fail at h
  refine re_aloadn (pc := 0) 0 (by decide +kernel : decode cX8_fail 0 = .ok (.aload_n 0, 1)) rfl ?_
  refine re_iloadn (pc := 1) 1 (by decide +kernel : decode cX8_fail 1 = .ok (.iload_n 1, 1)) rfl ?_
  obtain ⟨S1_, g2_, h⟩ := rv_b_e h
  refine re_pI (pc := 2) g2_ lfX8_32 rfl rfl rfl rfl (by decide +kernel : decode cX8_fail 2 = .ok (.putfield 32, 3)) ?_
  refine re_aloadn (pc := 5) 0 (by decide +kernel : decode cX8_fail 5 = .ok (.aload_n 0, 1)) rfl ?_
  refine re_aloadn (pc := 6) 0 (by decide +kernel : decode cX8_fail 6 = .ok (.aload_n 0, 1)) rfl ?_
  obtain ⟨x3_, g4_, h⟩ := rv_b_e h
  refine re_gI (pc := 7) g4_ lfX8_49 rfl (by decide +kernel : decode cX8_fail 7 = .ok (.getfield 49, 3)) ?_
  obtain ⟨S5_, g6_, h⟩ := rv_b_e h
  refine re_pI (pc := 10) g6_ lfX8_35 rfl rfl rfl rfl (by decide +kernel : decode cX8_fail 10 = .ok (.putfield 35, 3)) ?_
  refine re_iconst (pc := 13) (0 : Int32) (by decide +kernel : decode cX8_fail 13 = .ok (.iconst 0, 1)) (by decide) ?_
  cases h
  exact re_iret (fun ty hty => by cases hty; rfl) (by decide +kernel : decode cX8_fail 14 = .ok (.ireturn, 1))
theorem metX8_fail (n : Nat) (S : rvS) (a0 : Nat) (x1 : Int32) (r : Int32) (S' : rvS) (h : fnX8_fail n S a0 x1 = some (r, S')) : rv_Met yX8_fail mX8_fail 0 [.ref a0, .int x1] S (some (.int r)) S' := rv_Met.of ⟨by decide +kernel, rfl, (fun z => by first | rfl | cases z), rfl⟩ (Nat.le_of_ble_eq_true rfl) rfl (eX8_fail_in n S a0 x1 r S' h)
noncomputable def fnX8_isBlank (n : Nat) (S : rvS) (x0 : Int32) : Option Int32 :=
  if x0 = (32 : Int32) then (
    some (1 : Int32))
  else (
    if x0 = (10 : Int32) then (
      some (1 : Int32))
    else (
      some (0 : Int32)))
set_option maxRecDepth 20000 in
set_option maxHeartbeats 4000000 in
theorem eX8_isBlank_in (n : Nat) (S : rvS) (x0 : Int32) (r : Int32) (h : fnX8_isBlank n S x0 = some r) : rv_Ev mX8_isBlank 0 0 [(0, .int x0)] [] S (some (.int r)) S := by
  unfold fnX8_isBlank at h
  refine re_iloadn (pc := 0) 0 (by decide +kernel : decode cX8_isBlank 0 = .ok (.iload_n 0, 1)) rfl ?_
  refine re_bipush (pc := 1) (32 : Int32) (by decide +kernel : decode cX8_isBlank 1 = .ok (.bipush 32, 2)) (by decide) ?_
  rcases rv_if_e h with ⟨g1_, h⟩ | ⟨g1_, h⟩
  · refine re_icmp_eq_t (pc := 3) 12 (by decide +kernel : decode cX8_isBlank 3 = .ok (.if_icmp .eq 9, 3)) (by decide) g1_ ?_
    refine re_iconst (pc := 12) (1 : Int32) (by decide +kernel : decode cX8_isBlank 12 = .ok (.iconst 1, 1)) (by decide) ?_
    refine re_goto (pc := 13) 17 (by decide +kernel : decode cX8_isBlank 13 = .ok (.goto 4, 3)) (by decide) ?_
    cases h
    exact re_iret (fun ty hty => by cases hty; rfl) (by decide +kernel : decode cX8_isBlank 17 = .ok (.ireturn, 1))
  · refine re_icmp_eq_f (pc := 3) 12 (by decide +kernel : decode cX8_isBlank 3 = .ok (.if_icmp .eq 9, 3)) (by decide) g1_ ?_
    refine re_iloadn (pc := 6) 0 (by decide +kernel : decode cX8_isBlank 6 = .ok (.iload_n 0, 1)) rfl ?_
    refine re_bipush (pc := 7) (10 : Int32) (by decide +kernel : decode cX8_isBlank 7 = .ok (.bipush 10, 2)) (by decide) ?_
    rcases rv_if_e h with ⟨g2_, h⟩ | ⟨g2_, h⟩
    · refine re_icmp_ne_f (pc := 9) 16 (by decide +kernel : decode cX8_isBlank 9 = .ok (.if_icmp .ne 7, 3)) (by decide) g2_ ?_
      refine re_iconst (pc := 12) (1 : Int32) (by decide +kernel : decode cX8_isBlank 12 = .ok (.iconst 1, 1)) (by decide) ?_
      refine re_goto (pc := 13) 17 (by decide +kernel : decode cX8_isBlank 13 = .ok (.goto 4, 3)) (by decide) ?_
      cases h
      exact re_iret (fun ty hty => by cases hty; rfl) (by decide +kernel : decode cX8_isBlank 17 = .ok (.ireturn, 1))
    · refine re_icmp_ne_t (pc := 9) 16 (by decide +kernel : decode cX8_isBlank 9 = .ok (.if_icmp .ne 7, 3)) (by decide) g2_ ?_
      refine re_iconst (pc := 16) (0 : Int32) (by decide +kernel : decode cX8_isBlank 16 = .ok (.iconst 0, 1)) (by decide) ?_
      cases h
      exact re_iret (fun ty hty => by cases hty; rfl) (by decide +kernel : decode cX8_isBlank 17 = .ok (.ireturn, 1))
theorem metX8_isBlank (n : Nat) (S : rvS) (x0 : Int32) (r : Int32) (h : fnX8_isBlank n S x0 = some r) : rv_Met yX8_isBlank mX8_isBlank 0 [.int x0] S (some (.int r)) S := rv_Met.of ⟨by decide +kernel, rfl, (fun z => by first | rfl | cases z), rfl⟩ (Nat.le_of_ble_eq_true rfl) rfl (eX8_isBlank_in n S x0 r h)
noncomputable def cX8_isOfRun_12 (n : Nat) (S : rvS) (x0 : Int32) : Option Int32 :=
  if x0 < (48 : Int32) then (
    some (0 : Int32))
  else (
    if (57 : Int32) < x0 then (
      some (0 : Int32))
    else (
      some (1 : Int32)))
set_option maxRecDepth 20000 in
set_option maxHeartbeats 4000000 in
theorem eX8_isOfRun_12 (n : Nat) (S : rvS) (x0 : Int32) (r : Int32) (h : cX8_isOfRun_12 n S x0 = some r) : rv_Ev mX8_isOfRun 0 12 [(0, .int x0)] [] S (some (.int r)) S := by
  unfold cX8_isOfRun_12 at h
  refine re_iloadn (pc := 12) 0 (by decide +kernel : decode cX8_isOfRun 12 = .ok (.iload_n 0, 1)) rfl ?_
  refine re_bipush (pc := 13) (48 : Int32) (by decide +kernel : decode cX8_isOfRun 13 = .ok (.bipush 48, 2)) (by decide) ?_
  rcases rv_if_e h with ⟨g1_, h⟩ | ⟨g1_, h⟩
  · refine re_icmp_lt_t (pc := 15) 28 (by decide +kernel : decode cX8_isOfRun 15 = .ok (.if_icmp .lt 13, 3)) (by decide) g1_ ?_
    refine re_iconst (pc := 28) (0 : Int32) (by decide +kernel : decode cX8_isOfRun 28 = .ok (.iconst 0, 1)) (by decide) ?_
    cases h
    exact re_iret (fun ty hty => by cases hty; rfl) (by decide +kernel : decode cX8_isOfRun 29 = .ok (.ireturn, 1))
  · refine re_icmp_lt_f (pc := 15) 28 (by decide +kernel : decode cX8_isOfRun 15 = .ok (.if_icmp .lt 13, 3)) (by decide) g1_ ?_
    refine re_iloadn (pc := 18) 0 (by decide +kernel : decode cX8_isOfRun 18 = .ok (.iload_n 0, 1)) rfl ?_
    refine re_bipush (pc := 19) (57 : Int32) (by decide +kernel : decode cX8_isOfRun 19 = .ok (.bipush 57, 2)) (by decide) ?_
    rcases rv_if_e h with ⟨g2_, h⟩ | ⟨g2_, h⟩
    · refine re_icmp_gt_t (pc := 21) 28 (by decide +kernel : decode cX8_isOfRun 21 = .ok (.if_icmp .gt 7, 3)) (by decide) g2_ ?_
      refine re_iconst (pc := 28) (0 : Int32) (by decide +kernel : decode cX8_isOfRun 28 = .ok (.iconst 0, 1)) (by decide) ?_
      cases h
      exact re_iret (fun ty hty => by cases hty; rfl) (by decide +kernel : decode cX8_isOfRun 29 = .ok (.ireturn, 1))
    · refine re_icmp_gt_f (pc := 21) 28 (by decide +kernel : decode cX8_isOfRun 21 = .ok (.if_icmp .gt 7, 3)) (by decide) g2_ ?_
      refine re_iconst (pc := 24) (1 : Int32) (by decide +kernel : decode cX8_isOfRun 24 = .ok (.iconst 1, 1)) (by decide) ?_
      refine re_goto (pc := 25) 29 (by decide +kernel : decode cX8_isOfRun 25 = .ok (.goto 4, 3)) (by decide) ?_
      cases h
      exact re_iret (fun ty hty => by cases hty; rfl) (by decide +kernel : decode cX8_isOfRun 29 = .ok (.ireturn, 1))
noncomputable def fnX8_isOfRun (n : Nat) (S : rvS) (x0 : Int32) : Option Int32 :=
  if x0 < (97 : Int32) then (
    cX8_isOfRun_12 n S x0)
  else (
    if x0 ≤ (122 : Int32) then (
      some (1 : Int32))
    else (
      cX8_isOfRun_12 n S x0))
set_option maxRecDepth 20000 in
set_option maxHeartbeats 4000000 in
theorem eX8_isOfRun_in (n : Nat) (S : rvS) (x0 : Int32) (r : Int32) (h : fnX8_isOfRun n S x0 = some r) : rv_Ev mX8_isOfRun 0 0 [(0, .int x0)] [] S (some (.int r)) S := by
  unfold fnX8_isOfRun at h
  refine re_iloadn (pc := 0) 0 (by decide +kernel : decode cX8_isOfRun 0 = .ok (.iload_n 0, 1)) rfl ?_
  refine re_bipush (pc := 1) (97 : Int32) (by decide +kernel : decode cX8_isOfRun 1 = .ok (.bipush 97, 2)) (by decide) ?_
  rcases rv_if_e h with ⟨g1_, h⟩ | ⟨g1_, h⟩
  · refine re_icmp_lt_t (pc := 3) 12 (by decide +kernel : decode cX8_isOfRun 3 = .ok (.if_icmp .lt 9, 3)) (by decide) g1_ ?_
    exact eX8_isOfRun_12 n S x0 _ h
  · refine re_icmp_lt_f (pc := 3) 12 (by decide +kernel : decode cX8_isOfRun 3 = .ok (.if_icmp .lt 9, 3)) (by decide) g1_ ?_
    refine re_iloadn (pc := 6) 0 (by decide +kernel : decode cX8_isOfRun 6 = .ok (.iload_n 0, 1)) rfl ?_
    refine re_bipush (pc := 7) (122 : Int32) (by decide +kernel : decode cX8_isOfRun 7 = .ok (.bipush 122, 2)) (by decide) ?_
    rcases rv_if_e h with ⟨g2_, h⟩ | ⟨g2_, h⟩
    · refine re_icmp_le_t (pc := 9) 24 (by decide +kernel : decode cX8_isOfRun 9 = .ok (.if_icmp .le 15, 3)) (by decide) g2_ ?_
      refine re_iconst (pc := 24) (1 : Int32) (by decide +kernel : decode cX8_isOfRun 24 = .ok (.iconst 1, 1)) (by decide) ?_
      refine re_goto (pc := 25) 29 (by decide +kernel : decode cX8_isOfRun 25 = .ok (.goto 4, 3)) (by decide) ?_
      cases h
      exact re_iret (fun ty hty => by cases hty; rfl) (by decide +kernel : decode cX8_isOfRun 29 = .ok (.ireturn, 1))
    · refine re_icmp_le_f (pc := 9) 24 (by decide +kernel : decode cX8_isOfRun 9 = .ok (.if_icmp .le 15, 3)) (by decide) g2_ ?_
      exact eX8_isOfRun_12 n S x0 _ h
theorem metX8_isOfRun (n : Nat) (S : rvS) (x0 : Int32) (r : Int32) (h : fnX8_isOfRun n S x0 = some r) : rv_Met yX8_isOfRun mX8_isOfRun 0 [.int x0] S (some (.int r)) S := rv_Met.of ⟨by decide +kernel, rfl, (fun z => by first | rfl | cases z), rfl⟩ (Nat.le_of_ble_eq_true rfl) rfl (eX8_isOfRun_in n S x0 r h)
noncomputable def fnX8_isLetter (n : Nat) (S : rvS) (x0 : Int32) : Option Int32 :=
  if x0 < (97 : Int32) then (
    some (0 : Int32))
  else (
    if (122 : Int32) < x0 then (
      some (0 : Int32))
    else (
      some (1 : Int32)))
set_option maxRecDepth 20000 in
set_option maxHeartbeats 4000000 in
theorem eX8_isLetter_in (n : Nat) (S : rvS) (x0 : Int32) (r : Int32) (h : fnX8_isLetter n S x0 = some r) : rv_Ev mX8_isLetter 0 0 [(0, .int x0)] [] S (some (.int r)) S := by
  unfold fnX8_isLetter at h
  refine re_iloadn (pc := 0) 0 (by decide +kernel : decode cX8_isLetter 0 = .ok (.iload_n 0, 1)) rfl ?_
  refine re_bipush (pc := 1) (97 : Int32) (by decide +kernel : decode cX8_isLetter 1 = .ok (.bipush 97, 2)) (by decide) ?_
  rcases rv_if_e h with ⟨g1_, h⟩ | ⟨g1_, h⟩
  · refine re_icmp_lt_t (pc := 3) 16 (by decide +kernel : decode cX8_isLetter 3 = .ok (.if_icmp .lt 13, 3)) (by decide) g1_ ?_
    refine re_iconst (pc := 16) (0 : Int32) (by decide +kernel : decode cX8_isLetter 16 = .ok (.iconst 0, 1)) (by decide) ?_
    cases h
    exact re_iret (fun ty hty => by cases hty; rfl) (by decide +kernel : decode cX8_isLetter 17 = .ok (.ireturn, 1))
  · refine re_icmp_lt_f (pc := 3) 16 (by decide +kernel : decode cX8_isLetter 3 = .ok (.if_icmp .lt 13, 3)) (by decide) g1_ ?_
    refine re_iloadn (pc := 6) 0 (by decide +kernel : decode cX8_isLetter 6 = .ok (.iload_n 0, 1)) rfl ?_
    refine re_bipush (pc := 7) (122 : Int32) (by decide +kernel : decode cX8_isLetter 7 = .ok (.bipush 122, 2)) (by decide) ?_
    rcases rv_if_e h with ⟨g2_, h⟩ | ⟨g2_, h⟩
    · refine re_icmp_gt_t (pc := 9) 16 (by decide +kernel : decode cX8_isLetter 9 = .ok (.if_icmp .gt 7, 3)) (by decide) g2_ ?_
      refine re_iconst (pc := 16) (0 : Int32) (by decide +kernel : decode cX8_isLetter 16 = .ok (.iconst 0, 1)) (by decide) ?_
      cases h
      exact re_iret (fun ty hty => by cases hty; rfl) (by decide +kernel : decode cX8_isLetter 17 = .ok (.ireturn, 1))
    · refine re_icmp_gt_f (pc := 9) 16 (by decide +kernel : decode cX8_isLetter 9 = .ok (.if_icmp .gt 7, 3)) (by decide) g2_ ?_
      refine re_iconst (pc := 12) (1 : Int32) (by decide +kernel : decode cX8_isLetter 12 = .ok (.iconst 1, 1)) (by decide) ?_
      refine re_goto (pc := 13) 17 (by decide +kernel : decode cX8_isLetter 13 = .ok (.goto 4, 3)) (by decide) ?_
      cases h
      exact re_iret (fun ty hty => by cases hty; rfl) (by decide +kernel : decode cX8_isLetter 17 = .ok (.ireturn, 1))
theorem metX8_isLetter (n : Nat) (S : rvS) (x0 : Int32) (r : Int32) (h : fnX8_isLetter n S x0 = some r) : rv_Met yX8_isLetter mX8_isLetter 0 [.int x0] S (some (.int r)) S := rv_Met.of ⟨by decide +kernel, rfl, (fun z => by first | rfl | cases z), rfl⟩ (Nat.le_of_ble_eq_true rfl) rfl (eX8_isLetter_in n S x0 r h)
noncomputable def fnX11_longer (n : Nat) (S : rvS) (x0 : Int64) (x2 : Int32) : Option Int64 :=
  some ((x0 <<< ((5 : Int32).toInt64 &&& 63)) + (((x2 - (97 : Int32)) + (1 : Int32)).toInt64))
set_option maxRecDepth 20000 in
set_option maxHeartbeats 4000000 in
theorem eX11_longer_in (n : Nat) (S : rvS) (x0 : Int64) (x2 : Int32) (r : Int64) (h : fnX11_longer n S x0 x2 = some r) : rv_Ev mX11_longer 0 0 [(0, .long x0), (2, .int x2)] [] S (some (.long r)) S := by
  unfold fnX11_longer at h
  refine re_lloadn (pc := 0) 0 (by decide +kernel : decode cX11_longer 0 = .ok (.lload_n 0, 1)) rfl ?_
  refine re_iconst (pc := 1) (5 : Int32) (by decide +kernel : decode cX11_longer 1 = .ok (.iconst 5, 1)) (by decide) ?_
  refine re_lshl (pc := 2) (by decide +kernel : decode cX11_longer 2 = .ok (.lshl, 1)) ?_
  refine re_iloadn (pc := 3) 1 (by decide +kernel : decode cX11_longer 3 = .ok (.iload_n 2, 1)) rfl ?_
  refine re_bipush (pc := 4) (97 : Int32) (by decide +kernel : decode cX11_longer 4 = .ok (.bipush 97, 2)) (by decide) ?_
  refine re_isub (pc := 6) (by decide +kernel : decode cX11_longer 6 = .ok (.isub, 1)) ?_
  refine re_iconst (pc := 7) (1 : Int32) (by decide +kernel : decode cX11_longer 7 = .ok (.iconst 1, 1)) (by decide) ?_
  refine re_iadd (pc := 8) (by decide +kernel : decode cX11_longer 8 = .ok (.iadd, 1)) ?_
  refine re_i2l (pc := 9) (by decide +kernel : decode cX11_longer 9 = .ok (.i2l, 1)) ?_
  refine re_ladd (pc := 10) (by decide +kernel : decode cX11_longer 10 = .ok (.ladd, 1)) ?_
  cases h
  exact re_lret (by decide +kernel : decode cX11_longer 11 = .ok (.lreturn, 1))
theorem metX11_longer (n : Nat) (S : rvS) (x0 : Int64) (x2 : Int32) (r : Int64) (h : fnX11_longer n S x0 x2 = some r) : rv_Met yX11_longer mX11_longer 0 [.long x0, .int x2] S (some (.long r)) S := rv_Met.of ⟨by decide +kernel, rfl, (fun z => by first | rfl | cases z), rfl⟩ (Nat.le_of_ble_eq_true rfl) rfl (eX11_longer_in n S x0 x2 r h)
noncomputable def cX11_of_10 (n : Nat) (S : rvS) : Nat → Int64 → Int32 → Int32 → Option Nat
  | 0, _, _, _ => none
  | k + 1, x0, x3, x4 =>
    if x3 ≤ x4 then (
      some 22)
    else (
      (rv_ix 23 x4).bind fun a2_ =>
      (rv_wd a2_).bind fun u5_ =>
      if (lg_cmp (rv_wcode a2_) x0) = 0 then (
        some a2_)
      else (
        rv_lt (x4 + (1)) fun x8_ =>
        cX11_of_10 n S k x0 x3 x8_))
set_option maxRecDepth 20000 in
set_option maxHeartbeats 4000000 in
theorem eX11_of_10 (n : Nat) (S : rvS) : ∀ (k : Nat) (x0 : Int64) (x3 : Int32) (x4 : Int32) (r : Nat), cX11_of_10 n S k x0 x3 x4 = some r → rv_Ev mX11_of 0 10 [(0, .long x0), (2, .ref 23), (3, .int x3), (4, .int x4)] [] S (some (.ref r)) S := by
  intro k
  induction k with
  | zero => intro x0 x3 x4 r h; exact absurd h (by simp [cX11_of_10])
  | succ k ih =>
    intro x0 x3 x4 r h
    unfold cX11_of_10 at h
    refine re_iload (pc := 10) 3 (by decide +kernel : decode cX11_of 10 = .ok (.iload 4, 2)) rfl ?_
    refine re_iloadn (pc := 12) 2 (by decide +kernel : decode cX11_of 12 = .ok (.iload_n 3, 1)) rfl ?_
    rcases rv_if_e h with ⟨g1_, h⟩ | ⟨g1_, h⟩
    · refine re_icmp_ge_t (pc := 13) 41 (by decide +kernel : decode cX11_of 13 = .ok (.if_icmp .ge 28, 3)) (by decide) g1_ ?_
      refine re_getsW (pc := 41) (i := 22) (by decide) (rw2 235 (by decide +kernel) rfl) (by decide +kernel : decode cX11_of 41 = .ok (.getstatic 70, 3)) ?_
      cases h
      exact re_aret (by decide +kernel : decode cX11_of 44 = .ok (.areturn, 1))
    · refine re_icmp_ge_f (pc := 13) 41 (by decide +kernel : decode cX11_of 13 = .ok (.if_icmp .ge 28, 3)) (by decide) g1_ ?_
      refine re_aloadn (pc := 16) 1 (by decide +kernel : decode cX11_of 16 = .ok (.aload_n 2, 1)) rfl ?_
      refine re_iload (pc := 17) 3 (by decide +kernel : decode cX11_of 17 = .ok (.iload 4, 2)) rfl ?_
      obtain ⟨a2_, g3_, h⟩ := rv_b_e h
      have z4_ := rv_ix_e g3_
      refine re_aldW (pc := 19) z4_.1 (by decide +kernel : decode cX11_of 19 = .ok (.aaload, 1)) ?_
      refine re_nR z4_.2.symm ?_
      refine re_astore (pc := 20) (lv1 := [(5, .ref a2_), (0, .long x0), (2, .ref 23), (3, .int x3), (4, .int x4)]) (by decide +kernel : decode cX11_of 20 = .ok (.astore 5, 2)) (by decide) rfl ?_
      refine re_aload (pc := 22) 0 (by decide +kernel : decode cX11_of 22 = .ok (.aload 5, 2)) rfl ?_
      obtain ⟨u5_, g6_, h⟩ := rv_b_e h
      refine re_wcode (pc := 24) (rv_wd_e g6_) (rw10 33 (by decide +kernel) rfl) (by decide +kernel : decode cX11_of 24 = .ok (.getfield 106, 3)) ?_
      refine re_lloadn (pc := 27) 1 (by decide +kernel : decode cX11_of 27 = .ok (.lload_n 0, 1)) rfl ?_
      refine re_lcmp (pc := 28) (by decide +kernel : decode cX11_of 28 = .ok (.lcmp, 1)) ?_
      rcases rv_if_e h with ⟨g7_, h⟩ | ⟨g7_, h⟩
      · refine re_if_ne_f (pc := 29) 35 (by decide +kernel : decode cX11_of 29 = .ok (.ifCond .ne 6, 3)) (by decide) g7_ ?_
        refine re_aload (pc := 32) 0 (by decide +kernel : decode cX11_of 32 = .ok (.aload 5, 2)) rfl ?_
        cases h
        exact re_aret (by decide +kernel : decode cX11_of 34 = .ok (.areturn, 1))
      · refine re_if_ne_t (pc := 29) 35 (by decide +kernel : decode cX11_of 29 = .ok (.ifCond .ne 6, 3)) (by decide) g7_ ?_
        obtain ⟨x8_, g9_, h⟩ := rv_lt_e h
        refine re_iinc (pc := 35) 4 x8_ (lv1 := [(4, .int x8_), (5, .ref a2_), (0, .long x0), (2, .ref 23), (3, .int x3)]) (by decide +kernel : decode cX11_of 35 = .ok (.iinc 4 1, 3)) rfl g9_ (by decide) rfl ?_
        refine re_goto (pc := 38) 10 (by decide +kernel : decode cX11_of 38 = .ok (.goto (-28), 3)) (by decide) ?_
        refine re_sub [2, 3, 4, 0] (lv1 := [(0, .long x0), (2, .ref 23), (3, .int x3), (4, .int x8_)]) rfl ?_
        exact ih x0 x3 x8_ _ h
noncomputable def fnX11_of (n : Nat) (S : rvS) (x0 : Int64) : Option Nat :=
  cX11_of_10 n S n x0 (23 : Int32) (0 : Int32)
set_option maxRecDepth 20000 in
set_option maxHeartbeats 4000000 in
theorem eX11_of_in (n : Nat) (S : rvS) (x0 : Int64) (r : Nat) (h : fnX11_of n S x0 = some r) : rv_Ev mX11_of 0 0 [(0, .long x0)] [] S (some (.ref r)) S := by
  unfold fnX11_of at h
  refine re_getsA (pc := 0) (rw2 233 (by decide +kernel) rfl) (by decide +kernel : decode cX11_of 0 = .ok (.getstatic 110, 3)) ?_
  refine re_astoren (pc := 3) (lv1 := [(2, .ref 23), (0, .long x0)]) (by decide +kernel : decode cX11_of 3 = .ok (.astore_n 2, 1)) rfl (by decide) rfl ?_
  refine re_aloadn (pc := 4) 0 (by decide +kernel : decode cX11_of 4 = .ok (.aload_n 2, 1)) rfl ?_
  refine re_alenW (pc := 5) (by decide +kernel : decode cX11_of 5 = .ok (.arraylength, 1)) ?_
  refine re_istoren (pc := 6) (lv1 := [(3, .int (23 : Int32)), (2, .ref 23), (0, .long x0)]) (by decide +kernel : decode cX11_of 6 = .ok (.istore_n 3, 1)) rfl (by decide) rfl ?_
  refine re_iconst (pc := 7) (0 : Int32) (by decide +kernel : decode cX11_of 7 = .ok (.iconst 0, 1)) (by decide) ?_
  refine re_istore (pc := 8) (lv1 := [(4, .int (0 : Int32)), (3, .int (23 : Int32)), (2, .ref 23), (0, .long x0)]) (by decide +kernel : decode cX11_of 8 = .ok (.istore 4, 2)) (by decide) rfl ?_
  refine re_sub [3, 2, 1, 0] (lv1 := [(0, .long x0), (2, .ref 23), (3, .int (23 : Int32)), (4, .int (0 : Int32))]) rfl ?_
  exact eX11_of_10 n S n x0 (23 : Int32) (0 : Int32) _ h
theorem metX11_of (n : Nat) (S : rvS) (x0 : Int64) (r : Nat) (h : fnX11_of n S x0 = some r) : rv_Met yX11_of mX11_of 0 [.long x0] S (some (.ref r)) S := rv_Met.of ⟨by decide +kernel, rfl, (fun z => by first | rfl | cases z), rfl⟩ (Nat.le_of_ble_eq_true rfl) rfl (eX11_of_in n S x0 r h)
noncomputable def cX8_readRun_92 (n : Nat) (K14 : Nat → Int32 → Int32 → rvS → Option rvS) (S : rvS) (a0 : Nat) (x1 : Int32) (x2 : Int32) : Option rvS :=
  (rv_gI S 7 a0 3).bind fun x1_ =>
  (rv_pI S 7 a0 3 (x1_ + (1 : Int32))).bind fun S3_ =>
  K14 a0 x1 x2 S3_
set_option maxRecDepth 20000 in
set_option maxHeartbeats 4000000 in
theorem eX8_readRun_92 (n : Nat) (K14 : Nat → Int32 → Int32 → rvS → Option rvS) (hK14 : ∀ (a0 : Nat) (x1 : Int32) (x2 : Int32) (S : rvS) (S' : rvS), K14 a0 x1 x2 S = some S' → rv_Ev mX8_readRun 1 14 [(0, .ref a0), (1, .int x1), (2, .int x2)] [] S none S') (S : rvS) (a0 : Nat) (x1 : Int32) (x2 : Int32) (S' : rvS) (h : cX8_readRun_92 n K14 S a0 x1 x2 = some S') : rv_Ev mX8_readRun 1 92 [(0, .ref a0), (1, .int x1), (2, .int x2)] [] S none S' := by
  unfold cX8_readRun_92 at h
  refine re_aloadn (pc := 92) 0 (by decide +kernel : decode cX8_readRun 92 = .ok (.aload_n 0, 1)) rfl ?_
  refine re_dup (pc := 93) (by decide +kernel : decode cX8_readRun 93 = .ok (.dup, 1)) rfl ?_
  obtain ⟨x1_, g2_, h⟩ := rv_b_e h
  refine re_gI (pc := 94) g2_ lfX8_29 rfl (by decide +kernel : decode cX8_readRun 94 = .ok (.getfield 29, 3)) ?_
  refine re_iconst (pc := 97) (1 : Int32) (by decide +kernel : decode cX8_readRun 97 = .ok (.iconst 1, 1)) (by decide) ?_
  refine re_iadd (pc := 98) (by decide +kernel : decode cX8_readRun 98 = .ok (.iadd, 1)) ?_
  obtain ⟨S3_, g4_, h⟩ := rv_b_e h
  refine re_pI (pc := 99) g4_ lfX8_29 rfl rfl rfl rfl (by decide +kernel : decode cX8_readRun 99 = .ok (.putfield 29, 3)) ?_
  refine re_goto (pc := 102) 14 (by decide +kernel : decode cX8_readRun 102 = .ok (.goto (-88), 3)) (by decide) ?_
  exact hK14 a0 x1 x2 S3_ _ h
noncomputable def cX8_readRun_134 (n : Nat) (S : rvS) (a0 : Nat) (x1 : Int32) (x2 : Int32) : Option rvS :=
  if x1 = 0 then (
    if (3 : Int32) < x2 then (
      (rv_pI S 7 a0 4 (1 : Int32)).bind fun S5_ =>
      some S5_)
    else (
      (rv_pI S 7 a0 4 (3 : Int32)).bind fun S7_ =>
      some S7_))
  else (
    (rv_pI S 7 a0 4 (1 : Int32)).bind fun S2_ =>
    some S2_)
set_option maxRecDepth 20000 in
set_option maxHeartbeats 4000000 in
theorem eX8_readRun_134 (n : Nat) (S : rvS) (a0 : Nat) (x1 : Int32) (x2 : Int32) (S' : rvS) (h : cX8_readRun_134 n S a0 x1 x2 = some S') : rv_Ev mX8_readRun 1 134 [(0, .ref a0), (1, .int x1), (2, .int x2)] [] S none S' := by
  unfold cX8_readRun_134 at h
  refine re_aloadn (pc := 134) 0 (by decide +kernel : decode cX8_readRun 134 = .ok (.aload_n 0, 1)) rfl ?_
  refine re_iloadn (pc := 135) 1 (by decide +kernel : decode cX8_readRun 135 = .ok (.iload_n 1, 1)) rfl ?_
  rcases rv_if_e h with ⟨g1_, h⟩ | ⟨g1_, h⟩
  · refine re_if_ne_f (pc := 136) 148 (by decide +kernel : decode cX8_readRun 136 = .ok (.ifCond .ne 12, 3)) (by decide) g1_ ?_
    refine re_iloadn (pc := 139) 2 (by decide +kernel : decode cX8_readRun 139 = .ok (.iload_n 2, 1)) rfl ?_
    refine re_iconst (pc := 140) (3 : Int32) (by decide +kernel : decode cX8_readRun 140 = .ok (.iconst 3, 1)) (by decide) ?_
    rcases rv_if_e h with ⟨g4_, h⟩ | ⟨g4_, h⟩
    · refine re_icmp_gt_t (pc := 141) 148 (by decide +kernel : decode cX8_readRun 141 = .ok (.if_icmp .gt 7, 3)) (by decide) g4_ ?_
      refine re_iconst (pc := 148) (1 : Int32) (by decide +kernel : decode cX8_readRun 148 = .ok (.iconst 1, 1)) (by decide) ?_
      obtain ⟨S5_, g6_, h⟩ := rv_b_e h
      refine re_pI (pc := 149) g6_ lfX8_52 rfl rfl rfl rfl (by decide +kernel : decode cX8_readRun 149 = .ok (.putfield 52, 3)) ?_
      cases h
      exact re_vret (by decide +kernel : decode cX8_readRun 152 = .ok (.return_, 1))
    · refine re_icmp_gt_f (pc := 141) 148 (by decide +kernel : decode cX8_readRun 141 = .ok (.if_icmp .gt 7, 3)) (by decide) g4_ ?_
      refine re_iconst (pc := 144) (3 : Int32) (by decide +kernel : decode cX8_readRun 144 = .ok (.iconst 3, 1)) (by decide) ?_
      refine re_goto (pc := 145) 149 (by decide +kernel : decode cX8_readRun 145 = .ok (.goto 4, 3)) (by decide) ?_
      obtain ⟨S7_, g8_, h⟩ := rv_b_e h
      refine re_pI (pc := 149) g8_ lfX8_52 rfl rfl rfl rfl (by decide +kernel : decode cX8_readRun 149 = .ok (.putfield 52, 3)) ?_
      cases h
      exact re_vret (by decide +kernel : decode cX8_readRun 152 = .ok (.return_, 1))
  · refine re_if_ne_t (pc := 136) 148 (by decide +kernel : decode cX8_readRun 136 = .ok (.ifCond .ne 12, 3)) (by decide) g1_ ?_
    refine re_iconst (pc := 148) (1 : Int32) (by decide +kernel : decode cX8_readRun 148 = .ok (.iconst 1, 1)) (by decide) ?_
    obtain ⟨S2_, g3_, h⟩ := rv_b_e h
    refine re_pI (pc := 149) g3_ lfX8_52 rfl rfl rfl rfl (by decide +kernel : decode cX8_readRun 149 = .ok (.putfield 52, 3)) ?_
    cases h
    exact re_vret (by decide +kernel : decode cX8_readRun 152 = .ok (.return_, 1))
noncomputable def cX8_readRun_105 (n : Nat) (S : rvS) (a0 : Nat) (x1 : Int32) (x2 : Int32) : Option rvS :=
  if x2 = 0 then (
    if (8 : Int32) < x1 then (
      cX8_readRun_134 n S a0 x1 x2)
    else (
      (rv_pI S 7 a0 4 (2 : Int32)).bind fun S3_ =>
      (rv_gL S3_ 7 a0 7).bind fun x5_ =>
      (fnX11_of n S3_ x5_).bind fun a8_ =>
      (rv_pR S3_ 7 a0 8 a8_).bind fun S10_ =>
      some S10_))
  else (
    cX8_readRun_134 n S a0 x1 x2)
set_option maxRecDepth 20000 in
set_option maxHeartbeats 4000000 in
theorem eX8_readRun_105 (n : Nat) (S : rvS) (a0 : Nat) (x1 : Int32) (x2 : Int32) (S' : rvS) (h : cX8_readRun_105 n S a0 x1 x2 = some S') : rv_Ev mX8_readRun 1 105 [(0, .ref a0), (1, .int x1), (2, .int x2)] [] S none S' := by
  unfold cX8_readRun_105 at h
  refine re_iloadn (pc := 105) 2 (by decide +kernel : decode cX8_readRun 105 = .ok (.iload_n 2, 1)) rfl ?_
  rcases rv_if_e h with ⟨g1_, h⟩ | ⟨g1_, h⟩
  · refine re_if_ne_f (pc := 106) 134 (by decide +kernel : decode cX8_readRun 106 = .ok (.ifCond .ne 28, 3)) (by decide) g1_ ?_
    refine re_iloadn (pc := 109) 1 (by decide +kernel : decode cX8_readRun 109 = .ok (.iload_n 1, 1)) rfl ?_
    refine re_bipush (pc := 110) (8 : Int32) (by decide +kernel : decode cX8_readRun 110 = .ok (.bipush 8, 2)) (by decide) ?_
    rcases rv_if_e h with ⟨g2_, h⟩ | ⟨g2_, h⟩
    · refine re_icmp_gt_t (pc := 112) 134 (by decide +kernel : decode cX8_readRun 112 = .ok (.if_icmp .gt 22, 3)) (by decide) g2_ ?_
      exact eX8_readRun_134 n S a0 x1 x2 _ h
    · refine re_icmp_gt_f (pc := 112) 134 (by decide +kernel : decode cX8_readRun 112 = .ok (.if_icmp .gt 22, 3)) (by decide) g2_ ?_
      refine re_aloadn (pc := 115) 0 (by decide +kernel : decode cX8_readRun 115 = .ok (.aload_n 0, 1)) rfl ?_
      refine re_iconst (pc := 116) (2 : Int32) (by decide +kernel : decode cX8_readRun 116 = .ok (.iconst 2, 1)) (by decide) ?_
      obtain ⟨S3_, g4_, h⟩ := rv_b_e h
      refine re_pI (pc := 117) g4_ lfX8_52 rfl rfl rfl rfl (by decide +kernel : decode cX8_readRun 117 = .ok (.putfield 52, 3)) ?_
      refine re_aloadn (pc := 120) 0 (by decide +kernel : decode cX8_readRun 120 = .ok (.aload_n 0, 1)) rfl ?_
      refine re_aloadn (pc := 121) 0 (by decide +kernel : decode cX8_readRun 121 = .ok (.aload_n 0, 1)) rfl ?_
      obtain ⟨x5_, g6_, h⟩ := rv_b_e h
      refine re_gL (pc := 122) g6_ lfX8_64 rfl (by decide +kernel : decode cX8_readRun 122 = .ok (.getfield 64, 3)) ?_
      obtain ⟨a8_, g9_, h⟩ := rv_b_e h
      have m7_ := metX11_of n S3_ x5_ _ g9_
      refine re_cS (pc := 125) [.long x5_] m7_ (rv_okl.k ⟨rfl, rfl⟩) (rv_up.rf _ _) (by decide) (Nat.le_of_ble_eq_true rfl) lSX8_78 rfl (by decide +kernel : decode cX8_readRun 125 = .ok (.invokestatic 78, 3)) ?_
      obtain ⟨S10_, g11_, h⟩ := rv_b_e h
      refine re_pR (pc := 128) g11_ lfX8_19 rfl (Or.inl rfl) (by decide +kernel : decode cX8_readRun 128 = .ok (.putfield 19, 3)) ?_
      refine re_goto (pc := 131) 152 (by decide +kernel : decode cX8_readRun 131 = .ok (.goto 21, 3)) (by decide) ?_
      cases h
      exact re_vret (by decide +kernel : decode cX8_readRun 152 = .ok (.return_, 1))
  · refine re_if_ne_t (pc := 106) 134 (by decide +kernel : decode cX8_readRun 106 = .ok (.ifCond .ne 28, 3)) (by decide) g1_ ?_
    exact eX8_readRun_134 n S a0 x1 x2 _ h
noncomputable def cX8_readRun_14 (n : Nat) : Nat → rvS → Nat → Int32 → Int32 → Option rvS
  | 0, _, _, _, _ => none
  | k + 1, S, a0, x1, x2 =>
    (rv_gI S 7 a0 3).bind fun x1_ =>
    (rv_gI S 7 a0 1).bind fun x3_ =>
    if x3_ ≤ x1_ then (
      cX8_readRun_105 n S a0 x1 x2)
    else (
      (rv_gI S 7 a0 3).bind fun x6_ =>
      (rv_ck S 7 a0).bind fun u8_ =>
      (fnX8_signAt n S a0 x6_).bind fun x11_ =>
      (fnX8_isOfRun n S x11_).bind fun x14_ =>
      if x14_ = 0 then (
        cX8_readRun_105 n S a0 x1 x2)
      else (
        (rv_gI S 7 a0 3).bind fun x17_ =>
        (rv_ck S 7 a0).bind fun u19_ =>
        (fnX8_signAt n S a0 x17_).bind fun x22_ =>
        (fnX8_isLetter n S x22_).bind fun x25_ =>
        if x25_ = 0 then (
          rv_lt (x2 + (1)) fun x28_ =>
          (rv_gI S 7 a0 6).bind fun x30_ =>
          (rv_pI S 7 a0 6 ((x30_ * (10 : Int32)) + (x22_ - (48 : Int32)))).bind fun S32_ =>
          cX8_readRun_92 n (fun a0 x1 x2 S => cX8_readRun_14 n k S a0 x1 x2) S32_ a0 x1 x28_)
        else (
          rv_lt (x1 + (1)) fun x34_ =>
          (rv_gL S 7 a0 7).bind fun x36_ =>
          (fnX11_longer n S x36_ x22_).bind fun x39_ =>
          (rv_pL S 7 a0 7 x39_).bind fun S41_ =>
          cX8_readRun_92 n (fun a0 x1 x2 S => cX8_readRun_14 n k S a0 x1 x2) S41_ a0 x34_ x2)))
set_option maxRecDepth 20000 in
set_option maxHeartbeats 4000000 in
theorem eX8_readRun_14 (n : Nat) : ∀ (k : Nat) (S : rvS) (a0 : Nat) (x1 : Int32) (x2 : Int32) (S' : rvS), cX8_readRun_14 n k S a0 x1 x2 = some S' → rv_Ev mX8_readRun 1 14 [(0, .ref a0), (1, .int x1), (2, .int x2)] [] S none S' := by
  intro k
  induction k with
  | zero => intro S a0 x1 x2 S' h; exact absurd h (by simp [cX8_readRun_14])
  | succ k ih =>
    intro S a0 x1 x2 S' h
    unfold cX8_readRun_14 at h
    refine re_aloadn (pc := 14) 0 (by decide +kernel : decode cX8_readRun 14 = .ok (.aload_n 0, 1)) rfl ?_
    obtain ⟨x1_, g2_, h⟩ := rv_b_e h
    refine re_gI (pc := 15) g2_ lfX8_29 rfl (by decide +kernel : decode cX8_readRun 15 = .ok (.getfield 29, 3)) ?_
    refine re_aloadn (pc := 18) 0 (by decide +kernel : decode cX8_readRun 18 = .ok (.aload_n 0, 1)) rfl ?_
    obtain ⟨x3_, g4_, h⟩ := rv_b_e h
    refine re_gI (pc := 19) g4_ lfX8_22 rfl (by decide +kernel : decode cX8_readRun 19 = .ok (.getfield 22, 3)) ?_
    rcases rv_if_e h with ⟨g5_, h⟩ | ⟨g5_, h⟩
    · refine re_icmp_ge_t (pc := 22) 105 (by decide +kernel : decode cX8_readRun 22 = .ok (.if_icmp .ge 83, 3)) (by decide) g5_ ?_
      exact eX8_readRun_105 n S a0 x1 x2 _ h
    · refine re_icmp_ge_f (pc := 22) 105 (by decide +kernel : decode cX8_readRun 22 = .ok (.if_icmp .ge 83, 3)) (by decide) g5_ ?_
      refine re_aloadn (pc := 25) 0 (by decide +kernel : decode cX8_readRun 25 = .ok (.aload_n 0, 1)) rfl ?_
      refine re_aloadn (pc := 26) 0 (by decide +kernel : decode cX8_readRun 26 = .ok (.aload_n 0, 1)) rfl ?_
      obtain ⟨x6_, g7_, h⟩ := rv_b_e h
      refine re_gI (pc := 27) g7_ lfX8_29 rfl (by decide +kernel : decode cX8_readRun 27 = .ok (.getfield 29, 3)) ?_
      obtain ⟨u8_, g9_, h⟩ := rv_b_e h
      obtain ⟨x11_, g12_, h⟩ := rv_b_e h
      have m10_ := metX8_signAt n S a0 x6_ _ g12_
      refine re_cV (pc := 30) [.int x6_] m10_ (rv_okl.k ⟨rfl, rfl⟩) (rv_up.rf _ _) (by decide) (rv_ck_e g9_) ⟨by decide, rfl⟩ (Nat.le_of_ble_eq_true rfl) lVX8_41 rfl (by decide +kernel : decode cX8_readRun 30 = .ok (.invokevirtual 41, 3)) ?_
      obtain ⟨x14_, g15_, h⟩ := rv_b_e h
      have m13_ := metX8_isOfRun n S x11_ _ g15_
      refine re_cS (pc := 33) [.int x11_] m13_ (rv_okl.k ⟨rfl, rfl⟩) (rv_up.rf _ _) (by decide) (Nat.le_of_ble_eq_true rfl) lSX8_55 rfl (by decide +kernel : decode cX8_readRun 33 = .ok (.invokestatic 55, 3)) ?_
      rcases rv_if_e h with ⟨g16_, h⟩ | ⟨g16_, h⟩
      · refine re_if_eq_t (pc := 36) 105 (by decide +kernel : decode cX8_readRun 36 = .ok (.ifCond .eq 69, 3)) (by decide) g16_ ?_
        exact eX8_readRun_105 n S a0 x1 x2 _ h
      · refine re_if_eq_f (pc := 36) 105 (by decide +kernel : decode cX8_readRun 36 = .ok (.ifCond .eq 69, 3)) (by decide) g16_ ?_
        refine re_aloadn (pc := 39) 0 (by decide +kernel : decode cX8_readRun 39 = .ok (.aload_n 0, 1)) rfl ?_
        refine re_aloadn (pc := 40) 0 (by decide +kernel : decode cX8_readRun 40 = .ok (.aload_n 0, 1)) rfl ?_
        obtain ⟨x17_, g18_, h⟩ := rv_b_e h
        refine re_gI (pc := 41) g18_ lfX8_29 rfl (by decide +kernel : decode cX8_readRun 41 = .ok (.getfield 29, 3)) ?_
        obtain ⟨u19_, g20_, h⟩ := rv_b_e h
        obtain ⟨x22_, g23_, h⟩ := rv_b_e h
        have m21_ := metX8_signAt n S a0 x17_ _ g23_
        refine re_cV (pc := 44) [.int x17_] m21_ (rv_okl.k ⟨rfl, rfl⟩) (rv_up.rf _ _) (by decide) (rv_ck_e g20_) ⟨by decide, rfl⟩ (Nat.le_of_ble_eq_true rfl) lVX8_41 rfl (by decide +kernel : decode cX8_readRun 44 = .ok (.invokevirtual 41, 3)) ?_
        refine re_istoren (pc := 47) (lv1 := [(3, .int x22_), (0, .ref a0), (1, .int x1), (2, .int x2)]) (by decide +kernel : decode cX8_readRun 47 = .ok (.istore_n 3, 1)) rfl (by decide) rfl ?_
        refine re_iloadn (pc := 48) 0 (by decide +kernel : decode cX8_readRun 48 = .ok (.iload_n 3, 1)) rfl ?_
        obtain ⟨x25_, g26_, h⟩ := rv_b_e h
        have m24_ := metX8_isLetter n S x22_ _ g26_
        refine re_cS (pc := 49) [.int x22_] m24_ (rv_okl.k ⟨rfl, rfl⟩) (rv_up.rf _ _) (by decide) (Nat.le_of_ble_eq_true rfl) lSX8_71 rfl (by decide +kernel : decode cX8_readRun 49 = .ok (.invokestatic 71, 3)) ?_
        rcases rv_if_e h with ⟨g27_, h⟩ | ⟨g27_, h⟩
        · refine re_if_eq_t (pc := 52) 73 (by decide +kernel : decode cX8_readRun 52 = .ok (.ifCond .eq 21, 3)) (by decide) g27_ ?_
          obtain ⟨x28_, g29_, h⟩ := rv_lt_e h
          refine re_iinc (pc := 73) 3 x28_ (lv1 := [(2, .int x28_), (3, .int x22_), (0, .ref a0), (1, .int x1)]) (by decide +kernel : decode cX8_readRun 73 = .ok (.iinc 2 1, 3)) rfl g29_ (by decide) rfl ?_
          refine re_aloadn (pc := 76) 2 (by decide +kernel : decode cX8_readRun 76 = .ok (.aload_n 0, 1)) rfl ?_
          refine re_aloadn (pc := 77) 2 (by decide +kernel : decode cX8_readRun 77 = .ok (.aload_n 0, 1)) rfl ?_
          obtain ⟨x30_, g31_, h⟩ := rv_b_e h
          refine re_gI (pc := 78) g31_ lfX8_68 rfl (by decide +kernel : decode cX8_readRun 78 = .ok (.getfield 68, 3)) ?_
          refine re_bipush (pc := 81) (10 : Int32) (by decide +kernel : decode cX8_readRun 81 = .ok (.bipush 10, 2)) (by decide) ?_
          refine re_imul (pc := 83) (by decide +kernel : decode cX8_readRun 83 = .ok (.imul, 1)) ?_
          refine re_iloadn (pc := 84) 1 (by decide +kernel : decode cX8_readRun 84 = .ok (.iload_n 3, 1)) rfl ?_
          refine re_bipush (pc := 85) (48 : Int32) (by decide +kernel : decode cX8_readRun 85 = .ok (.bipush 48, 2)) (by decide) ?_
          refine re_isub (pc := 87) (by decide +kernel : decode cX8_readRun 87 = .ok (.isub, 1)) ?_
          refine re_iadd (pc := 88) (by decide +kernel : decode cX8_readRun 88 = .ok (.iadd, 1)) ?_
          obtain ⟨S32_, g33_, h⟩ := rv_b_e h
          refine re_pI (pc := 89) g33_ lfX8_68 rfl rfl rfl rfl (by decide +kernel : decode cX8_readRun 89 = .ok (.putfield 68, 3)) ?_
          refine re_sub [2, 3, 0] (lv1 := [(0, .ref a0), (1, .int x1), (2, .int x28_)]) rfl ?_
          exact eX8_readRun_92 n (fun a0 x1 x2 S => cX8_readRun_14 n k S a0 x1 x2) (fun a0 x1 x2 S _ h => ih S a0 x1 x2 _ h) S32_ a0 x1 x28_ _ h
        · refine re_if_eq_f (pc := 52) 73 (by decide +kernel : decode cX8_readRun 52 = .ok (.ifCond .eq 21, 3)) (by decide) g27_ ?_
          obtain ⟨x34_, g35_, h⟩ := rv_lt_e h
          refine re_iinc (pc := 55) 2 x34_ (lv1 := [(1, .int x34_), (3, .int x22_), (0, .ref a0), (2, .int x2)]) (by decide +kernel : decode cX8_readRun 55 = .ok (.iinc 1 1, 3)) rfl g35_ (by decide) rfl ?_
          refine re_aloadn (pc := 58) 2 (by decide +kernel : decode cX8_readRun 58 = .ok (.aload_n 0, 1)) rfl ?_
          refine re_aloadn (pc := 59) 2 (by decide +kernel : decode cX8_readRun 59 = .ok (.aload_n 0, 1)) rfl ?_
          obtain ⟨x36_, g37_, h⟩ := rv_b_e h
          refine re_gL (pc := 60) g37_ lfX8_64 rfl (by decide +kernel : decode cX8_readRun 60 = .ok (.getfield 64, 3)) ?_
          refine re_iloadn (pc := 63) 1 (by decide +kernel : decode cX8_readRun 63 = .ok (.iload_n 3, 1)) rfl ?_
          obtain ⟨x39_, g40_, h⟩ := rv_b_e h
          have m38_ := metX11_longer n S x36_ x22_ _ g40_
          refine re_cS (pc := 64) [.long x36_, .int x22_] m38_ (rv_okl.k ⟨rfl, rfl⟩) (rv_up.rf _ _) (by decide) (Nat.le_of_ble_eq_true rfl) lSX8_74 rfl (by decide +kernel : decode cX8_readRun 64 = .ok (.invokestatic 74, 3)) ?_
          obtain ⟨S41_, g42_, h⟩ := rv_b_e h
          refine re_pL (pc := 67) g42_ lfX8_64 rfl rfl rfl rfl (by decide +kernel : decode cX8_readRun 67 = .ok (.putfield 64, 3)) ?_
          refine re_goto (pc := 70) 92 (by decide +kernel : decode cX8_readRun 70 = .ok (.goto 22, 3)) (by decide) ?_
          refine re_sub [2, 0, 3] (lv1 := [(0, .ref a0), (1, .int x34_), (2, .int x2)]) rfl ?_
          exact eX8_readRun_92 n (fun a0 x1 x2 S => cX8_readRun_14 n k S a0 x1 x2) (fun a0 x1 x2 S _ h => ih S a0 x1 x2 _ h) S41_ a0 x34_ x2 _ h
noncomputable def fnX8_readRun (n : Nat) (S : rvS) (a0 : Nat) : Option rvS :=
  (rv_pL S 7 a0 7 (0 : Int64)).bind fun S1_ =>
  (rv_pI S1_ 7 a0 6 (0 : Int32)).bind fun S3_ =>
  cX8_readRun_14 n n S3_ a0 (0 : Int32) (0 : Int32)
set_option maxRecDepth 20000 in
set_option maxHeartbeats 4000000 in
theorem eX8_readRun_in (n : Nat) (S : rvS) (a0 : Nat) (S' : rvS) (h : fnX8_readRun n S a0 = some S') : rv_Ev mX8_readRun 1 0 [(0, .ref a0)] [] S none S' := by
  unfold fnX8_readRun at h
  refine re_iconst (pc := 0) (0 : Int32) (by decide +kernel : decode cX8_readRun 0 = .ok (.iconst 0, 1)) (by decide) ?_
  refine re_istoren (pc := 1) (lv1 := [(1, .int (0 : Int32)), (0, .ref a0)]) (by decide +kernel : decode cX8_readRun 1 = .ok (.istore_n 1, 1)) rfl (by decide) rfl ?_
  refine re_iconst (pc := 2) (0 : Int32) (by decide +kernel : decode cX8_readRun 2 = .ok (.iconst 0, 1)) (by decide) ?_
  refine re_istoren (pc := 3) (lv1 := [(2, .int (0 : Int32)), (1, .int (0 : Int32)), (0, .ref a0)]) (by decide +kernel : decode cX8_readRun 3 = .ok (.istore_n 2, 1)) rfl (by decide) rfl ?_
  refine re_aloadn (pc := 4) 2 (by decide +kernel : decode cX8_readRun 4 = .ok (.aload_n 0, 1)) rfl ?_
  refine re_lconst (pc := 5) (0 : Int64) (by decide +kernel : decode cX8_readRun 5 = .ok (.lconst 0, 1)) (by decide) ?_
  obtain ⟨S1_, g2_, h⟩ := rv_b_e h
  refine re_pL (pc := 6) g2_ lfX8_64 rfl rfl rfl rfl (by decide +kernel : decode cX8_readRun 6 = .ok (.putfield 64, 3)) ?_
  refine re_aloadn (pc := 9) 2 (by decide +kernel : decode cX8_readRun 9 = .ok (.aload_n 0, 1)) rfl ?_
  refine re_iconst (pc := 10) (0 : Int32) (by decide +kernel : decode cX8_readRun 10 = .ok (.iconst 0, 1)) (by decide) ?_
  obtain ⟨S3_, g4_, h⟩ := rv_b_e h
  refine re_pI (pc := 11) g4_ lfX8_68 rfl rfl rfl rfl (by decide +kernel : decode cX8_readRun 11 = .ok (.putfield 68, 3)) ?_
  refine re_sub [2, 1, 0] (lv1 := [(0, .ref a0), (1, .int (0 : Int32)), (2, .int (0 : Int32))]) rfl ?_
  exact eX8_readRun_14 n n S3_ a0 (0 : Int32) (0 : Int32) _ h
theorem metX8_readRun (n : Nat) (S : rvS) (a0 : Nat) (S' : rvS) (h : fnX8_readRun n S a0 = some S') : rv_Met yX8_readRun mX8_readRun 1 [.ref a0] S none S' := rv_Met.of ⟨by decide +kernel, rfl, (fun z => by first | rfl | cases z), rfl⟩ (Nat.le_of_ble_eq_true rfl) rfl (eX8_readRun_in n S a0 S' h)
noncomputable def cX8_isMark_18 (n : Nat) (S : rvS) (x0 : Int32) : Option Int32 :=
  if x0 = (40 : Int32) then (
    some (1 : Int32))
  else (
    if x0 = (41 : Int32) then (
      some (1 : Int32))
    else (
      if x0 = (46 : Int32) then (
        some (1 : Int32))
      else (
        some (0 : Int32))))
set_option maxRecDepth 20000 in
set_option maxHeartbeats 4000000 in
theorem eX8_isMark_18 (n : Nat) (S : rvS) (x0 : Int32) (r : Int32) (h : cX8_isMark_18 n S x0 = some r) : rv_Ev mX8_isMark 0 18 [(0, .int x0)] [] S (some (.int r)) S := by
  unfold cX8_isMark_18 at h
  refine re_iloadn (pc := 18) 0 (by decide +kernel : decode cX8_isMark 18 = .ok (.iload_n 0, 1)) rfl ?_
  refine re_bipush (pc := 19) (40 : Int32) (by decide +kernel : decode cX8_isMark 19 = .ok (.bipush 40, 2)) (by decide) ?_
  rcases rv_if_e h with ⟨g1_, h⟩ | ⟨g1_, h⟩
  · refine re_icmp_eq_t (pc := 21) 36 (by decide +kernel : decode cX8_isMark 21 = .ok (.if_icmp .eq 15, 3)) (by decide) g1_ ?_
    refine re_iconst (pc := 36) (1 : Int32) (by decide +kernel : decode cX8_isMark 36 = .ok (.iconst 1, 1)) (by decide) ?_
    refine re_goto (pc := 37) 41 (by decide +kernel : decode cX8_isMark 37 = .ok (.goto 4, 3)) (by decide) ?_
    cases h
    exact re_iret (fun ty hty => by cases hty; rfl) (by decide +kernel : decode cX8_isMark 41 = .ok (.ireturn, 1))
  · refine re_icmp_eq_f (pc := 21) 36 (by decide +kernel : decode cX8_isMark 21 = .ok (.if_icmp .eq 15, 3)) (by decide) g1_ ?_
    refine re_iloadn (pc := 24) 0 (by decide +kernel : decode cX8_isMark 24 = .ok (.iload_n 0, 1)) rfl ?_
    refine re_bipush (pc := 25) (41 : Int32) (by decide +kernel : decode cX8_isMark 25 = .ok (.bipush 41, 2)) (by decide) ?_
    rcases rv_if_e h with ⟨g2_, h⟩ | ⟨g2_, h⟩
    · refine re_icmp_eq_t (pc := 27) 36 (by decide +kernel : decode cX8_isMark 27 = .ok (.if_icmp .eq 9, 3)) (by decide) g2_ ?_
      refine re_iconst (pc := 36) (1 : Int32) (by decide +kernel : decode cX8_isMark 36 = .ok (.iconst 1, 1)) (by decide) ?_
      refine re_goto (pc := 37) 41 (by decide +kernel : decode cX8_isMark 37 = .ok (.goto 4, 3)) (by decide) ?_
      cases h
      exact re_iret (fun ty hty => by cases hty; rfl) (by decide +kernel : decode cX8_isMark 41 = .ok (.ireturn, 1))
    · refine re_icmp_eq_f (pc := 27) 36 (by decide +kernel : decode cX8_isMark 27 = .ok (.if_icmp .eq 9, 3)) (by decide) g2_ ?_
      refine re_iloadn (pc := 30) 0 (by decide +kernel : decode cX8_isMark 30 = .ok (.iload_n 0, 1)) rfl ?_
      refine re_bipush (pc := 31) (46 : Int32) (by decide +kernel : decode cX8_isMark 31 = .ok (.bipush 46, 2)) (by decide) ?_
      rcases rv_if_e h with ⟨g3_, h⟩ | ⟨g3_, h⟩
      · refine re_icmp_ne_f (pc := 33) 40 (by decide +kernel : decode cX8_isMark 33 = .ok (.if_icmp .ne 7, 3)) (by decide) g3_ ?_
        refine re_iconst (pc := 36) (1 : Int32) (by decide +kernel : decode cX8_isMark 36 = .ok (.iconst 1, 1)) (by decide) ?_
        refine re_goto (pc := 37) 41 (by decide +kernel : decode cX8_isMark 37 = .ok (.goto 4, 3)) (by decide) ?_
        cases h
        exact re_iret (fun ty hty => by cases hty; rfl) (by decide +kernel : decode cX8_isMark 41 = .ok (.ireturn, 1))
      · refine re_icmp_ne_t (pc := 33) 40 (by decide +kernel : decode cX8_isMark 33 = .ok (.if_icmp .ne 7, 3)) (by decide) g3_ ?_
        refine re_iconst (pc := 40) (0 : Int32) (by decide +kernel : decode cX8_isMark 40 = .ok (.iconst 0, 1)) (by decide) ?_
        cases h
        exact re_iret (fun ty hty => by cases hty; rfl) (by decide +kernel : decode cX8_isMark 41 = .ok (.ireturn, 1))
noncomputable def fnX8_isMark (n : Nat) (S : rvS) (x0 : Int32) : Option Int32 :=
  if x0 = (59 : Int32) then (
    some (1 : Int32))
  else (
    if x0 < (60 : Int32) then (
      cX8_isMark_18 n S x0)
    else (
      if x0 ≤ (62 : Int32) then (
        some (1 : Int32))
      else (
        cX8_isMark_18 n S x0)))
set_option maxRecDepth 20000 in
set_option maxHeartbeats 4000000 in
theorem eX8_isMark_in (n : Nat) (S : rvS) (x0 : Int32) (r : Int32) (h : fnX8_isMark n S x0 = some r) : rv_Ev mX8_isMark 0 0 [(0, .int x0)] [] S (some (.int r)) S := by
  unfold fnX8_isMark at h
  refine re_iloadn (pc := 0) 0 (by decide +kernel : decode cX8_isMark 0 = .ok (.iload_n 0, 1)) rfl ?_
  refine re_bipush (pc := 1) (59 : Int32) (by decide +kernel : decode cX8_isMark 1 = .ok (.bipush 59, 2)) (by decide) ?_
  rcases rv_if_e h with ⟨g1_, h⟩ | ⟨g1_, h⟩
  · refine re_icmp_eq_t (pc := 3) 36 (by decide +kernel : decode cX8_isMark 3 = .ok (.if_icmp .eq 33, 3)) (by decide) g1_ ?_
    refine re_iconst (pc := 36) (1 : Int32) (by decide +kernel : decode cX8_isMark 36 = .ok (.iconst 1, 1)) (by decide) ?_
    refine re_goto (pc := 37) 41 (by decide +kernel : decode cX8_isMark 37 = .ok (.goto 4, 3)) (by decide) ?_
    cases h
    exact re_iret (fun ty hty => by cases hty; rfl) (by decide +kernel : decode cX8_isMark 41 = .ok (.ireturn, 1))
  · refine re_icmp_eq_f (pc := 3) 36 (by decide +kernel : decode cX8_isMark 3 = .ok (.if_icmp .eq 33, 3)) (by decide) g1_ ?_
    refine re_iloadn (pc := 6) 0 (by decide +kernel : decode cX8_isMark 6 = .ok (.iload_n 0, 1)) rfl ?_
    refine re_bipush (pc := 7) (60 : Int32) (by decide +kernel : decode cX8_isMark 7 = .ok (.bipush 60, 2)) (by decide) ?_
    rcases rv_if_e h with ⟨g2_, h⟩ | ⟨g2_, h⟩
    · refine re_icmp_lt_t (pc := 9) 18 (by decide +kernel : decode cX8_isMark 9 = .ok (.if_icmp .lt 9, 3)) (by decide) g2_ ?_
      exact eX8_isMark_18 n S x0 _ h
    · refine re_icmp_lt_f (pc := 9) 18 (by decide +kernel : decode cX8_isMark 9 = .ok (.if_icmp .lt 9, 3)) (by decide) g2_ ?_
      refine re_iloadn (pc := 12) 0 (by decide +kernel : decode cX8_isMark 12 = .ok (.iload_n 0, 1)) rfl ?_
      refine re_bipush (pc := 13) (62 : Int32) (by decide +kernel : decode cX8_isMark 13 = .ok (.bipush 62, 2)) (by decide) ?_
      rcases rv_if_e h with ⟨g3_, h⟩ | ⟨g3_, h⟩
      · refine re_icmp_le_t (pc := 15) 36 (by decide +kernel : decode cX8_isMark 15 = .ok (.if_icmp .le 21, 3)) (by decide) g3_ ?_
        refine re_iconst (pc := 36) (1 : Int32) (by decide +kernel : decode cX8_isMark 36 = .ok (.iconst 1, 1)) (by decide) ?_
        refine re_goto (pc := 37) 41 (by decide +kernel : decode cX8_isMark 37 = .ok (.goto 4, 3)) (by decide) ?_
        cases h
        exact re_iret (fun ty hty => by cases hty; rfl) (by decide +kernel : decode cX8_isMark 41 = .ok (.ireturn, 1))
      · refine re_icmp_le_f (pc := 15) 36 (by decide +kernel : decode cX8_isMark 15 = .ok (.if_icmp .le 21, 3)) (by decide) g3_ ?_
        exact eX8_isMark_18 n S x0 _ h
theorem metX8_isMark (n : Nat) (S : rvS) (x0 : Int32) (r : Int32) (h : fnX8_isMark n S x0 = some r) : rv_Met yX8_isMark mX8_isMark 0 [.int x0] S (some (.int r)) S := rv_Met.of ⟨by decide +kernel, rfl, (fun z => by first | rfl | cases z), rfl⟩ (Nat.le_of_ble_eq_true rfl) rfl (eX8_isMark_in n S x0 r h)
noncomputable def cX8_next_151 (n : Nat) (S : rvS) (a0 : Nat) (t0 : Nat) (t1 : Int32) : Option rvS :=
  (rv_pI S 7 t0 4 t1).bind fun S1_ =>
  (rv_gI S1_ 7 a0 3).bind fun x3_ =>
  (rv_pI S1_ 7 a0 3 (x3_ + (1 : Int32))).bind fun S5_ =>
  some S5_
set_option maxRecDepth 20000 in
set_option maxHeartbeats 4000000 in
theorem eX8_next_151 (n : Nat) (S : rvS) (a0 : Nat) (t0 : Nat) (t1 : Int32) (S' : rvS) (h : cX8_next_151 n S a0 t0 t1 = some S') : rv_Ev mX8_next 2 151 [(0, .ref a0)] [.int t1, .ref t0] S none S' := by
  unfold cX8_next_151 at h
  obtain ⟨S1_, g2_, h⟩ := rv_b_e h
  refine re_pI (pc := 151) g2_ lfX8_52 rfl rfl rfl rfl (by decide +kernel : decode cX8_next 151 = .ok (.putfield 52, 3)) ?_
  refine re_aloadn (pc := 154) 0 (by decide +kernel : decode cX8_next 154 = .ok (.aload_n 0, 1)) rfl ?_
  refine re_dup (pc := 155) (by decide +kernel : decode cX8_next 155 = .ok (.dup, 1)) rfl ?_
  obtain ⟨x3_, g4_, h⟩ := rv_b_e h
  refine re_gI (pc := 156) g4_ lfX8_29 rfl (by decide +kernel : decode cX8_next 156 = .ok (.getfield 29, 3)) ?_
  refine re_iconst (pc := 159) (1 : Int32) (by decide +kernel : decode cX8_next 159 = .ok (.iconst 1, 1)) (by decide) ?_
  refine re_iadd (pc := 160) (by decide +kernel : decode cX8_next 160 = .ok (.iadd, 1)) ?_
  obtain ⟨S5_, g6_, h⟩ := rv_b_e h
  refine re_pI (pc := 161) g6_ lfX8_29 rfl rfl rfl rfl (by decide +kernel : decode cX8_next 161 = .ok (.putfield 29, 3)) ?_
  cases h
  exact re_vret (by decide +kernel : decode cX8_next 164 = .ok (.return_, 1))
noncomputable def cX8_next_84 (n : Nat) (S : rvS) (a0 : Nat) : Option rvS :=
  (rv_gI S 7 a0 3).bind fun x1_ =>
  (rv_gI S 7 a0 1).bind fun x3_ =>
  if x1_ < x3_ then (
    (rv_gI S 7 a0 3).bind fun x6_ =>
    (rv_ck S 7 a0).bind fun u8_ =>
    (fnX8_signAt n S a0 x6_).bind fun x11_ =>
    (fnX8_isOfRun n S x11_).bind fun x14_ =>
    if x14_ = 0 then (
      (rv_gI S 7 a0 3).bind fun x17_ =>
      (rv_ck S 7 a0).bind fun u19_ =>
      (fnX8_signAt n S a0 x17_).bind fun x22_ =>
      (fnX8_isMark n S x22_).bind fun x25_ =>
      if x25_ = 0 then (
        cX8_next_151 n S a0 a0 (1 : Int32))
      else (
        (rv_gI S 7 a0 3).bind fun x28_ =>
        (rv_ck S 7 a0).bind fun u30_ =>
        (fnX8_signAt n S a0 x28_).bind fun x33_ =>
        cX8_next_151 n S a0 a0 x33_))
    else (
      (rv_ck S 7 a0).bind fun u35_ =>
      (fnX8_readRun n S a0).bind fun S38_ =>
      some S38_))
  else (
    (rv_pI S 7 a0 4 (0 : Int32)).bind fun S41_ =>
    some S41_)
set_option maxRecDepth 20000 in
set_option maxHeartbeats 4000000 in
theorem eX8_next_84 (n : Nat) (S : rvS) (a0 : Nat) (S' : rvS) (h : cX8_next_84 n S a0 = some S') : rv_Ev mX8_next 2 84 [(0, .ref a0)] [] S none S' := by
  unfold cX8_next_84 at h
  refine re_aloadn (pc := 84) 0 (by decide +kernel : decode cX8_next 84 = .ok (.aload_n 0, 1)) rfl ?_
  obtain ⟨x1_, g2_, h⟩ := rv_b_e h
  refine re_gI (pc := 85) g2_ lfX8_29 rfl (by decide +kernel : decode cX8_next 85 = .ok (.getfield 29, 3)) ?_
  refine re_aloadn (pc := 88) 0 (by decide +kernel : decode cX8_next 88 = .ok (.aload_n 0, 1)) rfl ?_
  obtain ⟨x3_, g4_, h⟩ := rv_b_e h
  refine re_gI (pc := 89) g4_ lfX8_22 rfl (by decide +kernel : decode cX8_next 89 = .ok (.getfield 22, 3)) ?_
  rcases rv_if_e h with ⟨g5_, h⟩ | ⟨g5_, h⟩
  · refine re_icmp_lt_t (pc := 92) 103 (by decide +kernel : decode cX8_next 92 = .ok (.if_icmp .lt 11, 3)) (by decide) g5_ ?_
    refine re_aloadn (pc := 103) 0 (by decide +kernel : decode cX8_next 103 = .ok (.aload_n 0, 1)) rfl ?_
    refine re_aloadn (pc := 104) 0 (by decide +kernel : decode cX8_next 104 = .ok (.aload_n 0, 1)) rfl ?_
    obtain ⟨x6_, g7_, h⟩ := rv_b_e h
    refine re_gI (pc := 105) g7_ lfX8_29 rfl (by decide +kernel : decode cX8_next 105 = .ok (.getfield 29, 3)) ?_
    obtain ⟨u8_, g9_, h⟩ := rv_b_e h
    obtain ⟨x11_, g12_, h⟩ := rv_b_e h
    have m10_ := metX8_signAt n S a0 x6_ _ g12_
    refine re_cV (pc := 108) [.int x6_] m10_ (rv_okl.k ⟨rfl, rfl⟩) (rv_up.rf _ _) (by decide) (rv_ck_e g9_) ⟨by decide, rfl⟩ (Nat.le_of_ble_eq_true rfl) lVX8_41 rfl (by decide +kernel : decode cX8_next 108 = .ok (.invokevirtual 41, 3)) ?_
    obtain ⟨x14_, g15_, h⟩ := rv_b_e h
    have m13_ := metX8_isOfRun n S x11_ _ g15_
    refine re_cS (pc := 111) [.int x11_] m13_ (rv_okl.k ⟨rfl, rfl⟩) (rv_up.rf _ _) (by decide) (Nat.le_of_ble_eq_true rfl) lSX8_55 rfl (by decide +kernel : decode cX8_next 111 = .ok (.invokestatic 55, 3)) ?_
    rcases rv_if_e h with ⟨g16_, h⟩ | ⟨g16_, h⟩
    · refine re_if_eq_t (pc := 114) 124 (by decide +kernel : decode cX8_next 114 = .ok (.ifCond .eq 10, 3)) (by decide) g16_ ?_
      refine re_aloadn (pc := 124) 0 (by decide +kernel : decode cX8_next 124 = .ok (.aload_n 0, 1)) rfl ?_
      refine re_aloadn (pc := 125) 0 (by decide +kernel : decode cX8_next 125 = .ok (.aload_n 0, 1)) rfl ?_
      refine re_aloadn (pc := 126) 0 (by decide +kernel : decode cX8_next 126 = .ok (.aload_n 0, 1)) rfl ?_
      obtain ⟨x17_, g18_, h⟩ := rv_b_e h
      refine re_gI (pc := 127) g18_ lfX8_29 rfl (by decide +kernel : decode cX8_next 127 = .ok (.getfield 29, 3)) ?_
      obtain ⟨u19_, g20_, h⟩ := rv_b_e h
      obtain ⟨x22_, g23_, h⟩ := rv_b_e h
      have m21_ := metX8_signAt n S a0 x17_ _ g23_
      refine re_cV (pc := 130) [.int x17_] m21_ (rv_okl.k ⟨rfl, rfl⟩) (rv_up.rf _ _) (by decide) (rv_ck_e g20_) ⟨by decide, rfl⟩ (Nat.le_of_ble_eq_true rfl) lVX8_41 rfl (by decide +kernel : decode cX8_next 130 = .ok (.invokevirtual 41, 3)) ?_
      obtain ⟨x25_, g26_, h⟩ := rv_b_e h
      have m24_ := metX8_isMark n S x22_ _ g26_
      refine re_cS (pc := 133) [.int x22_] m24_ (rv_okl.k ⟨rfl, rfl⟩) (rv_up.rf _ _) (by decide) (Nat.le_of_ble_eq_true rfl) lSX8_61 rfl (by decide +kernel : decode cX8_next 133 = .ok (.invokestatic 61, 3)) ?_
      rcases rv_if_e h with ⟨g27_, h⟩ | ⟨g27_, h⟩
      · refine re_if_eq_t (pc := 136) 150 (by decide +kernel : decode cX8_next 136 = .ok (.ifCond .eq 14, 3)) (by decide) g27_ ?_
        refine re_iconst (pc := 150) (1 : Int32) (by decide +kernel : decode cX8_next 150 = .ok (.iconst 1, 1)) (by decide) ?_
        exact eX8_next_151 n S a0 a0 (1 : Int32) _ h
      · refine re_if_eq_f (pc := 136) 150 (by decide +kernel : decode cX8_next 136 = .ok (.ifCond .eq 14, 3)) (by decide) g27_ ?_
        refine re_aloadn (pc := 139) 0 (by decide +kernel : decode cX8_next 139 = .ok (.aload_n 0, 1)) rfl ?_
        refine re_aloadn (pc := 140) 0 (by decide +kernel : decode cX8_next 140 = .ok (.aload_n 0, 1)) rfl ?_
        obtain ⟨x28_, g29_, h⟩ := rv_b_e h
        refine re_gI (pc := 141) g29_ lfX8_29 rfl (by decide +kernel : decode cX8_next 141 = .ok (.getfield 29, 3)) ?_
        obtain ⟨u30_, g31_, h⟩ := rv_b_e h
        obtain ⟨x33_, g34_, h⟩ := rv_b_e h
        have m32_ := metX8_signAt n S a0 x28_ _ g34_
        refine re_cV (pc := 144) [.int x28_] m32_ (rv_okl.k ⟨rfl, rfl⟩) (rv_up.rf _ _) (by decide) (rv_ck_e g31_) ⟨by decide, rfl⟩ (Nat.le_of_ble_eq_true rfl) lVX8_41 rfl (by decide +kernel : decode cX8_next 144 = .ok (.invokevirtual 41, 3)) ?_
        refine re_goto (pc := 147) 151 (by decide +kernel : decode cX8_next 147 = .ok (.goto 4, 3)) (by decide) ?_
        exact eX8_next_151 n S a0 a0 x33_ _ h
    · refine re_if_eq_f (pc := 114) 124 (by decide +kernel : decode cX8_next 114 = .ok (.ifCond .eq 10, 3)) (by decide) g16_ ?_
      refine re_aloadn (pc := 117) 0 (by decide +kernel : decode cX8_next 117 = .ok (.aload_n 0, 1)) rfl ?_
      obtain ⟨u35_, g36_, h⟩ := rv_b_e h
      obtain ⟨S38_, g39_, h⟩ := rv_b_e h
      have m37_ := metX8_readRun n S a0 _ g39_
      have z40_ : rv_same S S38_ := m37_.sh rfl
      refine re_cV (pc := 118) [] m37_ (rv_okl.k z40_) (rv_up.sh z40_) (by decide) (rv_ck_e g36_) ⟨by decide, rfl⟩ (Nat.le_of_ble_eq_true rfl) lVX8_58 rfl (by decide +kernel : decode cX8_next 118 = .ok (.invokevirtual 58, 3)) ?_
      refine re_goto (pc := 121) 164 (by decide +kernel : decode cX8_next 121 = .ok (.goto 43, 3)) (by decide) ?_
      cases h
      exact re_vret (by decide +kernel : decode cX8_next 164 = .ok (.return_, 1))
  · refine re_icmp_lt_f (pc := 92) 103 (by decide +kernel : decode cX8_next 92 = .ok (.if_icmp .lt 11, 3)) (by decide) g5_ ?_
    refine re_aloadn (pc := 95) 0 (by decide +kernel : decode cX8_next 95 = .ok (.aload_n 0, 1)) rfl ?_
    refine re_iconst (pc := 96) (0 : Int32) (by decide +kernel : decode cX8_next 96 = .ok (.iconst 0, 1)) (by decide) ?_
    obtain ⟨S41_, g42_, h⟩ := rv_b_e h
    refine re_pI (pc := 97) g42_ lfX8_52 rfl rfl rfl rfl (by decide +kernel : decode cX8_next 97 = .ok (.putfield 52, 3)) ?_
    refine re_goto (pc := 100) 164 (by decide +kernel : decode cX8_next 100 = .ok (.goto 64, 3)) (by decide) ?_
    cases h
    exact re_vret (by decide +kernel : decode cX8_next 164 = .ok (.return_, 1))
noncomputable def cX8_next_38 (n : Nat) (S : rvS) (a0 : Nat) : Option rvS :=
  (rv_gI S 7 a0 3).bind fun x1_ =>
  (rv_pI S 7 a0 5 x1_).bind fun S3_ =>
  (rv_gI S3_ 7 a0 1).bind fun x5_ =>
  (rv_gI S3_ 7 a0 2).bind fun x7_ =>
  if x5_ ≤ x7_ then (
    cX8_next_84 n S3_ a0)
  else (
    (rv_gI S3_ 7 a0 3).bind fun x10_ =>
    (rv_gI S3_ 7 a0 2).bind fun x12_ =>
    if x10_ < x12_ then (
      cX8_next_84 n S3_ a0)
    else (
      (rv_gI S3_ 7 a0 2).bind fun x15_ =>
      (rv_pI S3_ 7 a0 5 x15_).bind fun S17_ =>
      (rv_pI S17_ 7 a0 4 (1 : Int32)).bind fun S19_ =>
      some S19_))
set_option maxRecDepth 20000 in
set_option maxHeartbeats 4000000 in
theorem eX8_next_38 (n : Nat) (S : rvS) (a0 : Nat) (S' : rvS) (h : cX8_next_38 n S a0 = some S') : rv_Ev mX8_next 2 38 [(0, .ref a0)] [] S none S' := by
  unfold cX8_next_38 at h
  refine re_aloadn (pc := 38) 0 (by decide +kernel : decode cX8_next 38 = .ok (.aload_n 0, 1)) rfl ?_
  refine re_aloadn (pc := 39) 0 (by decide +kernel : decode cX8_next 39 = .ok (.aload_n 0, 1)) rfl ?_
  obtain ⟨x1_, g2_, h⟩ := rv_b_e h
  refine re_gI (pc := 40) g2_ lfX8_29 rfl (by decide +kernel : decode cX8_next 40 = .ok (.getfield 29, 3)) ?_
  obtain ⟨S3_, g4_, h⟩ := rv_b_e h
  refine re_pI (pc := 43) g4_ lfX8_49 rfl rfl rfl rfl (by decide +kernel : decode cX8_next 43 = .ok (.putfield 49, 3)) ?_
  refine re_aloadn (pc := 46) 0 (by decide +kernel : decode cX8_next 46 = .ok (.aload_n 0, 1)) rfl ?_
  obtain ⟨x5_, g6_, h⟩ := rv_b_e h
  refine re_gI (pc := 47) g6_ lfX8_22 rfl (by decide +kernel : decode cX8_next 47 = .ok (.getfield 22, 3)) ?_
  refine re_aloadn (pc := 50) 0 (by decide +kernel : decode cX8_next 50 = .ok (.aload_n 0, 1)) rfl ?_
  obtain ⟨x7_, g8_, h⟩ := rv_b_e h
  refine re_gI (pc := 51) g8_ lfX8_26 rfl (by decide +kernel : decode cX8_next 51 = .ok (.getfield 26, 3)) ?_
  rcases rv_if_e h with ⟨g9_, h⟩ | ⟨g9_, h⟩
  · refine re_icmp_le_t (pc := 54) 84 (by decide +kernel : decode cX8_next 54 = .ok (.if_icmp .le 30, 3)) (by decide) g9_ ?_
    exact eX8_next_84 n S3_ a0 _ h
  · refine re_icmp_le_f (pc := 54) 84 (by decide +kernel : decode cX8_next 54 = .ok (.if_icmp .le 30, 3)) (by decide) g9_ ?_
    refine re_aloadn (pc := 57) 0 (by decide +kernel : decode cX8_next 57 = .ok (.aload_n 0, 1)) rfl ?_
    obtain ⟨x10_, g11_, h⟩ := rv_b_e h
    refine re_gI (pc := 58) g11_ lfX8_29 rfl (by decide +kernel : decode cX8_next 58 = .ok (.getfield 29, 3)) ?_
    refine re_aloadn (pc := 61) 0 (by decide +kernel : decode cX8_next 61 = .ok (.aload_n 0, 1)) rfl ?_
    obtain ⟨x12_, g13_, h⟩ := rv_b_e h
    refine re_gI (pc := 62) g13_ lfX8_26 rfl (by decide +kernel : decode cX8_next 62 = .ok (.getfield 26, 3)) ?_
    rcases rv_if_e h with ⟨g14_, h⟩ | ⟨g14_, h⟩
    · refine re_icmp_lt_t (pc := 65) 84 (by decide +kernel : decode cX8_next 65 = .ok (.if_icmp .lt 19, 3)) (by decide) g14_ ?_
      exact eX8_next_84 n S3_ a0 _ h
    · refine re_icmp_lt_f (pc := 65) 84 (by decide +kernel : decode cX8_next 65 = .ok (.if_icmp .lt 19, 3)) (by decide) g14_ ?_
      refine re_aloadn (pc := 68) 0 (by decide +kernel : decode cX8_next 68 = .ok (.aload_n 0, 1)) rfl ?_
      refine re_aloadn (pc := 69) 0 (by decide +kernel : decode cX8_next 69 = .ok (.aload_n 0, 1)) rfl ?_
      obtain ⟨x15_, g16_, h⟩ := rv_b_e h
      refine re_gI (pc := 70) g16_ lfX8_26 rfl (by decide +kernel : decode cX8_next 70 = .ok (.getfield 26, 3)) ?_
      obtain ⟨S17_, g18_, h⟩ := rv_b_e h
      refine re_pI (pc := 73) g18_ lfX8_49 rfl rfl rfl rfl (by decide +kernel : decode cX8_next 73 = .ok (.putfield 49, 3)) ?_
      refine re_aloadn (pc := 76) 0 (by decide +kernel : decode cX8_next 76 = .ok (.aload_n 0, 1)) rfl ?_
      refine re_iconst (pc := 77) (1 : Int32) (by decide +kernel : decode cX8_next 77 = .ok (.iconst 1, 1)) (by decide) ?_
      obtain ⟨S19_, g20_, h⟩ := rv_b_e h
      refine re_pI (pc := 78) g20_ lfX8_52 rfl rfl rfl rfl (by decide +kernel : decode cX8_next 78 = .ok (.putfield 52, 3)) ?_
      refine re_goto (pc := 81) 164 (by decide +kernel : decode cX8_next 81 = .ok (.goto 83, 3)) (by decide) ?_
      cases h
      exact re_vret (by decide +kernel : decode cX8_next 164 = .ok (.return_, 1))
noncomputable def cX8_next_0 (n : Nat) : Nat → rvS → Nat → Option rvS
  | 0, _, _ => none
  | k + 1, S, a0 =>
    (rv_gI S 7 a0 3).bind fun x1_ =>
    (rv_gI S 7 a0 1).bind fun x3_ =>
    if x3_ ≤ x1_ then (
      cX8_next_38 n S a0)
    else (
      (rv_gI S 7 a0 3).bind fun x6_ =>
      (rv_ck S 7 a0).bind fun u8_ =>
      (fnX8_signAt n S a0 x6_).bind fun x11_ =>
      (fnX8_isBlank n S x11_).bind fun x14_ =>
      if x14_ = 0 then (
        cX8_next_38 n S a0)
      else (
        (rv_gI S 7 a0 3).bind fun x17_ =>
        (rv_pI S 7 a0 3 (x17_ + (1 : Int32))).bind fun S19_ =>
        cX8_next_0 n k S19_ a0))
set_option maxRecDepth 20000 in
set_option maxHeartbeats 4000000 in
theorem eX8_next_0 (n : Nat) : ∀ (k : Nat) (S : rvS) (a0 : Nat) (S' : rvS), cX8_next_0 n k S a0 = some S' → rv_Ev mX8_next 2 0 [(0, .ref a0)] [] S none S' := by
  intro k
  induction k with
  | zero => intro S a0 S' h; exact absurd h (by simp [cX8_next_0])
  | succ k ih =>
    intro S a0 S' h
    unfold cX8_next_0 at h
    refine re_aloadn (pc := 0) 0 (by decide +kernel : decode cX8_next 0 = .ok (.aload_n 0, 1)) rfl ?_
    obtain ⟨x1_, g2_, h⟩ := rv_b_e h
    refine re_gI (pc := 1) g2_ lfX8_29 rfl (by decide +kernel : decode cX8_next 1 = .ok (.getfield 29, 3)) ?_
    refine re_aloadn (pc := 4) 0 (by decide +kernel : decode cX8_next 4 = .ok (.aload_n 0, 1)) rfl ?_
    obtain ⟨x3_, g4_, h⟩ := rv_b_e h
    refine re_gI (pc := 5) g4_ lfX8_22 rfl (by decide +kernel : decode cX8_next 5 = .ok (.getfield 22, 3)) ?_
    rcases rv_if_e h with ⟨g5_, h⟩ | ⟨g5_, h⟩
    · refine re_icmp_ge_t (pc := 8) 38 (by decide +kernel : decode cX8_next 8 = .ok (.if_icmp .ge 30, 3)) (by decide) g5_ ?_
      exact eX8_next_38 n S a0 _ h
    · refine re_icmp_ge_f (pc := 8) 38 (by decide +kernel : decode cX8_next 8 = .ok (.if_icmp .ge 30, 3)) (by decide) g5_ ?_
      refine re_aloadn (pc := 11) 0 (by decide +kernel : decode cX8_next 11 = .ok (.aload_n 0, 1)) rfl ?_
      refine re_aloadn (pc := 12) 0 (by decide +kernel : decode cX8_next 12 = .ok (.aload_n 0, 1)) rfl ?_
      obtain ⟨x6_, g7_, h⟩ := rv_b_e h
      refine re_gI (pc := 13) g7_ lfX8_29 rfl (by decide +kernel : decode cX8_next 13 = .ok (.getfield 29, 3)) ?_
      obtain ⟨u8_, g9_, h⟩ := rv_b_e h
      obtain ⟨x11_, g12_, h⟩ := rv_b_e h
      have m10_ := metX8_signAt n S a0 x6_ _ g12_
      refine re_cV (pc := 16) [.int x6_] m10_ (rv_okl.k ⟨rfl, rfl⟩) (rv_up.rf _ _) (by decide) (rv_ck_e g9_) ⟨by decide, rfl⟩ (Nat.le_of_ble_eq_true rfl) lVX8_41 rfl (by decide +kernel : decode cX8_next 16 = .ok (.invokevirtual 41, 3)) ?_
      obtain ⟨x14_, g15_, h⟩ := rv_b_e h
      have m13_ := metX8_isBlank n S x11_ _ g15_
      refine re_cS (pc := 19) [.int x11_] m13_ (rv_okl.k ⟨rfl, rfl⟩) (rv_up.rf _ _) (by decide) (Nat.le_of_ble_eq_true rfl) lSX8_45 rfl (by decide +kernel : decode cX8_next 19 = .ok (.invokestatic 45, 3)) ?_
      rcases rv_if_e h with ⟨g16_, h⟩ | ⟨g16_, h⟩
      · refine re_if_eq_t (pc := 22) 38 (by decide +kernel : decode cX8_next 22 = .ok (.ifCond .eq 16, 3)) (by decide) g16_ ?_
        exact eX8_next_38 n S a0 _ h
      · refine re_if_eq_f (pc := 22) 38 (by decide +kernel : decode cX8_next 22 = .ok (.ifCond .eq 16, 3)) (by decide) g16_ ?_
        refine re_aloadn (pc := 25) 0 (by decide +kernel : decode cX8_next 25 = .ok (.aload_n 0, 1)) rfl ?_
        refine re_dup (pc := 26) (by decide +kernel : decode cX8_next 26 = .ok (.dup, 1)) rfl ?_
        obtain ⟨x17_, g18_, h⟩ := rv_b_e h
        refine re_gI (pc := 27) g18_ lfX8_29 rfl (by decide +kernel : decode cX8_next 27 = .ok (.getfield 29, 3)) ?_
        refine re_iconst (pc := 30) (1 : Int32) (by decide +kernel : decode cX8_next 30 = .ok (.iconst 1, 1)) (by decide) ?_
        refine re_iadd (pc := 31) (by decide +kernel : decode cX8_next 31 = .ok (.iadd, 1)) ?_
        obtain ⟨S19_, g20_, h⟩ := rv_b_e h
        refine re_pI (pc := 32) g20_ lfX8_29 rfl rfl rfl rfl (by decide +kernel : decode cX8_next 32 = .ok (.putfield 29, 3)) ?_
        refine re_goto (pc := 35) 0 (by decide +kernel : decode cX8_next 35 = .ok (.goto (-35), 3)) (by decide) ?_
        exact ih S19_ a0 _ h
noncomputable def fnX8_next (n : Nat) (S : rvS) (a0 : Nat) : Option rvS :=
  cX8_next_0 n n S a0
set_option maxRecDepth 20000 in
set_option maxHeartbeats 4000000 in
theorem eX8_next_in (n : Nat) (S : rvS) (a0 : Nat) (S' : rvS) (h : fnX8_next n S a0 = some S') : rv_Ev mX8_next 2 0 [(0, .ref a0)] [] S none S' := by
  unfold fnX8_next at h
  exact eX8_next_0 n n S a0 _ h
theorem metX8_next (n : Nat) (S : rvS) (a0 : Nat) (S' : rvS) (h : fnX8_next n S a0 = some S') : rv_Met yX8_next mX8_next 2 [.ref a0] S none S' := rv_Met.of ⟨by decide +kernel, rfl, (fun z => by first | rfl | cases z), rfl⟩ (Nat.le_of_ble_eq_true rfl) rfl (eX8_next_in n S a0 S' h)
noncomputable def fnX7_put (n : Nat) (S : rvS) (a0 : Nat) (a1 : Nat) (x2 : Int32) (x3 : Int32) : Option rvS :=
  (rv_gI S 6 a0 4).bind fun x1_ =>
  if (40 : Int32) ≤ x1_ then (
    some S)
  else (
    (rv_gR S 6 a0 0).bind fun a4_ =>
    (rv_gI S 6 a0 4).bind fun x6_ =>
    (rv_uW S a4_ x6_ a1).bind fun S8_ =>
    (rv_gR S8_ 6 a0 1).bind fun a10_ =>
    (rv_gI S8_ 6 a0 4).bind fun x12_ =>
    (rv_uI S8_ a10_ x12_ x2).bind fun S14_ =>
    (rv_gR S14_ 6 a0 2).bind fun a16_ =>
    (rv_gI S14_ 6 a0 4).bind fun x18_ =>
    (rv_uI S14_ a16_ x18_ x3).bind fun S20_ =>
    (rv_gI S20_ 6 a0 4).bind fun x22_ =>
    (rv_pI S20_ 6 a0 4 (x22_ + (1 : Int32))).bind fun S24_ =>
    some S24_)
set_option maxRecDepth 20000 in
set_option maxHeartbeats 4000000 in
theorem eX7_put_in (n : Nat) (S : rvS) (a0 : Nat) (a1 : Nat) (x2 : Int32) (x3 : Int32) (S' : rvS) (h : fnX7_put n S a0 a1 x2 x3 = some S') : rv_Ev mX7_put 0 0 [(0, .ref a0), (1, .ref a1), (2, .int x2), (3, .int x3)] [] S none S' := by
  unfold fnX7_put at h
  refine re_aloadn (pc := 0) 0 (by decide +kernel : decode cX7_put 0 = .ok (.aload_n 0, 1)) rfl ?_
  obtain ⟨x1_, g2_, h⟩ := rv_b_e h
  refine re_gI (pc := 1) g2_ lfX7_32 rfl (by decide +kernel : decode cX7_put 1 = .ok (.getfield 32, 3)) ?_
  refine re_bipush (pc := 4) (40 : Int32) (by decide +kernel : decode cX7_put 4 = .ok (.bipush 40, 2)) (by decide) ?_
  rcases rv_if_e h with ⟨g3_, h⟩ | ⟨g3_, h⟩
  · refine re_icmp_ge_t (pc := 6) 49 (by decide +kernel : decode cX7_put 6 = .ok (.if_icmp .ge 43, 3)) (by decide) g3_ ?_
    cases h
    exact re_vret (by decide +kernel : decode cX7_put 49 = .ok (.return_, 1))
  · refine re_icmp_ge_f (pc := 6) 49 (by decide +kernel : decode cX7_put 6 = .ok (.if_icmp .ge 43, 3)) (by decide) g3_ ?_
    refine re_aloadn (pc := 9) 0 (by decide +kernel : decode cX7_put 9 = .ok (.aload_n 0, 1)) rfl ?_
    obtain ⟨a4_, g5_, h⟩ := rv_b_e h
    refine re_gR (pc := 10) g5_ lfX7_13 rfl (by decide +kernel : decode cX7_put 10 = .ok (.getfield 13, 3)) ?_
    refine re_aloadn (pc := 13) 0 (by decide +kernel : decode cX7_put 13 = .ok (.aload_n 0, 1)) rfl ?_
    obtain ⟨x6_, g7_, h⟩ := rv_b_e h
    refine re_gI (pc := 14) g7_ lfX7_32 rfl (by decide +kernel : decode cX7_put 14 = .ok (.getfield 32, 3)) ?_
    refine re_aloadn (pc := 17) 1 (by decide +kernel : decode cX7_put 17 = .ok (.aload_n 1, 1)) rfl ?_
    obtain ⟨S8_, g9_, h⟩ := rv_b_e h
    refine re_uW (pc := 18) g9_ (by decide +kernel : decode cX7_put 18 = .ok (.aastore, 1)) ?_
    refine re_aloadn (pc := 19) 0 (by decide +kernel : decode cX7_put 19 = .ok (.aload_n 0, 1)) rfl ?_
    obtain ⟨a10_, g11_, h⟩ := rv_b_e h
    refine re_gR (pc := 20) g11_ lfX7_17 rfl (by decide +kernel : decode cX7_put 20 = .ok (.getfield 17, 3)) ?_
    refine re_aloadn (pc := 23) 0 (by decide +kernel : decode cX7_put 23 = .ok (.aload_n 0, 1)) rfl ?_
    obtain ⟨x12_, g13_, h⟩ := rv_b_e h
    refine re_gI (pc := 24) g13_ lfX7_32 rfl (by decide +kernel : decode cX7_put 24 = .ok (.getfield 32, 3)) ?_
    refine re_iloadn (pc := 27) 2 (by decide +kernel : decode cX7_put 27 = .ok (.iload_n 2, 1)) rfl ?_
    obtain ⟨S14_, g15_, h⟩ := rv_b_e h
    refine re_uI (pc := 28) g15_ (by decide +kernel : decode cX7_put 28 = .ok (.iastore, 1)) ?_
    refine re_aloadn (pc := 29) 0 (by decide +kernel : decode cX7_put 29 = .ok (.aload_n 0, 1)) rfl ?_
    obtain ⟨a16_, g17_, h⟩ := rv_b_e h
    refine re_gR (pc := 30) g17_ lfX7_21 rfl (by decide +kernel : decode cX7_put 30 = .ok (.getfield 21, 3)) ?_
    refine re_aloadn (pc := 33) 0 (by decide +kernel : decode cX7_put 33 = .ok (.aload_n 0, 1)) rfl ?_
    obtain ⟨x18_, g19_, h⟩ := rv_b_e h
    refine re_gI (pc := 34) g19_ lfX7_32 rfl (by decide +kernel : decode cX7_put 34 = .ok (.getfield 32, 3)) ?_
    refine re_iloadn (pc := 37) 3 (by decide +kernel : decode cX7_put 37 = .ok (.iload_n 3, 1)) rfl ?_
    obtain ⟨S20_, g21_, h⟩ := rv_b_e h
    refine re_uI (pc := 38) g21_ (by decide +kernel : decode cX7_put 38 = .ok (.iastore, 1)) ?_
    refine re_aloadn (pc := 39) 0 (by decide +kernel : decode cX7_put 39 = .ok (.aload_n 0, 1)) rfl ?_
    refine re_dup (pc := 40) (by decide +kernel : decode cX7_put 40 = .ok (.dup, 1)) rfl ?_
    obtain ⟨x22_, g23_, h⟩ := rv_b_e h
    refine re_gI (pc := 41) g23_ lfX7_32 rfl (by decide +kernel : decode cX7_put 41 = .ok (.getfield 32, 3)) ?_
    refine re_iconst (pc := 44) (1 : Int32) (by decide +kernel : decode cX7_put 44 = .ok (.iconst 1, 1)) (by decide) ?_
    refine re_iadd (pc := 45) (by decide +kernel : decode cX7_put 45 = .ok (.iadd, 1)) ?_
    obtain ⟨S24_, g25_, h⟩ := rv_b_e h
    refine re_pI (pc := 46) g25_ lfX7_32 rfl rfl rfl rfl (by decide +kernel : decode cX7_put 46 = .ok (.putfield 32, 3)) ?_
    cases h
    exact re_vret (by decide +kernel : decode cX7_put 49 = .ok (.return_, 1))
theorem metX7_put (n : Nat) (S : rvS) (a0 : Nat) (a1 : Nat) (x2 : Int32) (x3 : Int32) (S' : rvS) (h : fnX7_put n S a0 a1 x2 x3 = some S') : rv_Met yX7_put mX7_put 0 [.ref a0, .ref a1, .int x2, .int x3] S none S' := rv_Met.of ⟨by decide +kernel, rfl, (fun z => by first | rfl | cases z), rfl⟩ (Nat.le_of_ble_eq_true rfl) rfl (eX7_put_in n S a0 a1 x2 x3 S' h)
noncomputable def fnX8_isWord (n : Nat) (S : rvS) (a0 : Nat) (a1 : Nat) : Option Int32 :=
  (rv_gI S 7 a0 4).bind fun x1_ =>
  if x1_ = (2 : Int32) then (
    (rv_gR S 7 a0 8).bind fun a4_ =>
    (rv_wd a4_).bind fun u6_ =>
    (rv_wd a1).bind fun u8_ =>
    if a4_ = a1 then (
      some (1 : Int32))
    else (
      some (0 : Int32)))
  else (
    some (0 : Int32))
set_option maxRecDepth 20000 in
set_option maxHeartbeats 4000000 in
theorem eX8_isWord_in (n : Nat) (S : rvS) (a0 : Nat) (a1 : Nat) (r : Int32) (h : fnX8_isWord n S a0 a1 = some r) : rv_Ev mX8_isWord 0 0 [(0, .ref a0), (1, .ref a1)] [] S (some (.int r)) S := by
  unfold fnX8_isWord at h
  refine re_aloadn (pc := 0) 0 (by decide +kernel : decode cX8_isWord 0 = .ok (.aload_n 0, 1)) rfl ?_
  obtain ⟨x1_, g2_, h⟩ := rv_b_e h
  refine re_gI (pc := 1) g2_ lfX8_52 rfl (by decide +kernel : decode cX8_isWord 1 = .ok (.getfield 52, 3)) ?_
  refine re_iconst (pc := 4) (2 : Int32) (by decide +kernel : decode cX8_isWord 4 = .ok (.iconst 2, 1)) (by decide) ?_
  rcases rv_if_e h with ⟨g3_, h⟩ | ⟨g3_, h⟩
  · refine re_icmp_ne_f (pc := 5) 20 (by decide +kernel : decode cX8_isWord 5 = .ok (.if_icmp .ne 15, 3)) (by decide) g3_ ?_
    refine re_aloadn (pc := 8) 0 (by decide +kernel : decode cX8_isWord 8 = .ok (.aload_n 0, 1)) rfl ?_
    obtain ⟨a4_, g5_, h⟩ := rv_b_e h
    refine re_gR (pc := 9) g5_ lfX8_19 rfl (by decide +kernel : decode cX8_isWord 9 = .ok (.getfield 19, 3)) ?_
    refine re_aloadn (pc := 12) 1 (by decide +kernel : decode cX8_isWord 12 = .ok (.aload_n 1, 1)) rfl ?_
    obtain ⟨u6_, g7_, h⟩ := rv_b_e h
    obtain ⟨u8_, g9_, h⟩ := rv_b_e h
    rcases rv_if_e h with ⟨g10_, h⟩ | ⟨g10_, h⟩
    · refine re_acmp_ne_f (pc := 13) (rv_wd_e g7_) (rv_wd_e g9_) 20 (by decide +kernel : decode cX8_isWord 13 = .ok (.if_acmp .ne 7, 3)) (by decide) g10_ ?_
      refine re_iconst (pc := 16) (1 : Int32) (by decide +kernel : decode cX8_isWord 16 = .ok (.iconst 1, 1)) (by decide) ?_
      refine re_goto (pc := 17) 21 (by decide +kernel : decode cX8_isWord 17 = .ok (.goto 4, 3)) (by decide) ?_
      cases h
      exact re_iret (fun ty hty => by cases hty; rfl) (by decide +kernel : decode cX8_isWord 21 = .ok (.ireturn, 1))
    · refine re_acmp_ne_t (pc := 13) (rv_wd_e g7_) (rv_wd_e g9_) 20 (by decide +kernel : decode cX8_isWord 13 = .ok (.if_acmp .ne 7, 3)) (by decide) g10_ ?_
      refine re_iconst (pc := 20) (0 : Int32) (by decide +kernel : decode cX8_isWord 20 = .ok (.iconst 0, 1)) (by decide) ?_
      cases h
      exact re_iret (fun ty hty => by cases hty; rfl) (by decide +kernel : decode cX8_isWord 21 = .ok (.ireturn, 1))
  · refine re_icmp_ne_t (pc := 5) 20 (by decide +kernel : decode cX8_isWord 5 = .ok (.if_icmp .ne 15, 3)) (by decide) g3_ ?_
    refine re_iconst (pc := 20) (0 : Int32) (by decide +kernel : decode cX8_isWord 20 = .ok (.iconst 0, 1)) (by decide) ?_
    cases h
    exact re_iret (fun ty hty => by cases hty; rfl) (by decide +kernel : decode cX8_isWord 21 = .ok (.ireturn, 1))
theorem metX8_isWord (n : Nat) (S : rvS) (a0 : Nat) (a1 : Nat) (r : Int32) (h : fnX8_isWord n S a0 a1 = some r) : rv_Met yX8_isWord mX8_isWord 0 [.ref a0, .ref a1] S (some (.int r)) S := rv_Met.of ⟨by decide +kernel, rfl, (fun z => by first | rfl | cases z), rfl⟩ (Nat.le_of_ble_eq_true rfl) rfl (eX8_isWord_in n S a0 a1 r h)
noncomputable def fnX7_readOfWho (n : Nat) (S : rvS) (a0 : Nat) (a1 : Nat) (a2 : Nat) (a3 : Nat) : Option (Int32 × rvS) :=
  (rv_ck S 7 a1).bind fun u1_ =>
  (fnX8_isWord n S a1 22).bind fun x4_ =>
  if x4_ = 0 then (
    (rv_ck S 7 a1).bind fun u34_ =>
    rv_bp (fnX8_fail n S a1 (1 : Int32)) fun x37_ S38_ =>
    (rv_bo x37_).bind fun b_ =>
    some (b_, S38_))
  else (
    (rv_gL S 7 a1 7).bind fun x7_ =>
    (rv_ck S 0 a2).bind fun u9_ =>
    (fnX1_find n S a2 x7_).bind fun x12_ =>
    if x12_ = (-1 : Int32) then (
      (rv_ck S 7 a1).bind fun u27_ =>
      rv_bp (fnX8_fail n S a1 (3 : Int32)) fun x30_ S31_ =>
      (rv_bo x30_).bind fun b_ =>
      some (b_, S31_))
    else (
      (rv_ck S 6 a0).bind fun u15_ =>
      (fnX7_put n S a0 a3 (0 : Int32) x12_).bind fun S18_ =>
      (rv_ck S18_ 7 a1).bind fun u21_ =>
      (fnX8_next n S18_ a1).bind fun S24_ =>
      some ((1 : Int32), S24_)))
set_option maxRecDepth 20000 in
set_option maxHeartbeats 4000000 in
theorem eX7_readOfWho_in (n : Nat) (S : rvS) (a0 : Nat) (a1 : Nat) (a2 : Nat) (a3 : Nat) (r : Int32) (S' : rvS) (h : fnX7_readOfWho n S a0 a1 a2 a3 = some (r, S')) : rv_Ev mX7_readOfWho 3 0 [(0, .ref a0), (1, .ref a1), (2, .ref a2), (3, .ref a3)] [] S (some (.int r)) S' := by
  unfold fnX7_readOfWho at h
  refine re_aloadn (pc := 0) 1 (by decide +kernel : decode cX7_readOfWho 0 = .ok (.aload_n 1, 1)) rfl ?_
  refine re_getsW (pc := 1) (i := 22) (by decide) (rw1 189 (by decide +kernel) rfl) (by decide +kernel : decode cX7_readOfWho 1 = .ok (.getstatic 28, 3)) ?_
  obtain ⟨u1_, g2_, h⟩ := rv_b_e h
  obtain ⟨x4_, g5_, h⟩ := rv_b_e h
  have m3_ := metX8_isWord n S a1 22 _ g5_
  refine re_cV (pc := 4) [.ref 22] m3_ (rv_okl.k ⟨rfl, rfl⟩) (rv_up.rf _ _) (by decide) (rv_ck_e g2_) ⟨by decide, rfl⟩ (Nat.le_of_ble_eq_true rfl) lVX7_61 rfl (by decide +kernel : decode cX7_readOfWho 4 = .ok (.invokevirtual 61, 3)) ?_
  rcases rv_if_e h with ⟨g6_, h⟩ | ⟨g6_, h⟩
  · refine re_if_ne_f (pc := 7) 16 (by decide +kernel : decode cX7_readOfWho 7 = .ok (.ifCond .ne 9, 3)) (by decide) g6_ ?_
    refine re_aloadn (pc := 10) 1 (by decide +kernel : decode cX7_readOfWho 10 = .ok (.aload_n 1, 1)) rfl ?_
    refine re_iconst (pc := 11) (1 : Int32) (by decide +kernel : decode cX7_readOfWho 11 = .ok (.iconst 1, 1)) (by decide) ?_
    obtain ⟨u34_, g35_, h⟩ := rv_b_e h
    obtain ⟨x37_, S38_, g39_, h⟩ := rv_bp_e h
    have m36_ := metX8_fail n S a1 (1 : Int32) _ _ g39_
    have z40_ : rv_same S S38_ := m36_.sh rfl
    refine re_cV (pc := 12) [.int (1 : Int32)] m36_ (rv_okl.k z40_) (rv_up.sh z40_) (by decide) (rv_ck_e g35_) ⟨by decide, rfl⟩ (Nat.le_of_ble_eq_true rfl) lVX7_51 rfl (by decide +kernel : decode cX7_readOfWho 12 = .ok (.invokevirtual 51, 3)) ?_
    obtain ⟨b_, gb_, h⟩ := rv_b_e h
    obtain ⟨gb1_, gb2_⟩ := rv_bo_e gb_
    refine re_nI (pc := 15) gb1_ ?_
    cases h
    exact re_iret (fun ty hty => by cases hty; exact gb2_) (by decide +kernel : decode cX7_readOfWho 15 = .ok (.ireturn, 1))
  · refine re_if_ne_t (pc := 7) 16 (by decide +kernel : decode cX7_readOfWho 7 = .ok (.ifCond .ne 9, 3)) (by decide) g6_ ?_
    refine re_aloadn (pc := 16) 2 (by decide +kernel : decode cX7_readOfWho 16 = .ok (.aload_n 2, 1)) rfl ?_
    refine re_aloadn (pc := 17) 1 (by decide +kernel : decode cX7_readOfWho 17 = .ok (.aload_n 1, 1)) rfl ?_
    obtain ⟨x7_, g8_, h⟩ := rv_b_e h
    refine re_gL (pc := 18) g8_ lfX7_111 rfl (by decide +kernel : decode cX7_readOfWho 18 = .ok (.getfield 111, 3)) ?_
    obtain ⟨u9_, g10_, h⟩ := rv_b_e h
    obtain ⟨x12_, g13_, h⟩ := rv_b_e h
    have m11_ := metX1_find n S a2 x7_ _ g13_
    refine re_cV (pc := 21) [.long x7_] m11_ (rv_okl.k ⟨rfl, rfl⟩) (rv_up.rf _ _) (by decide) (rv_ck_e g10_) ⟨by decide, rfl⟩ (Nat.le_of_ble_eq_true rfl) lVX7_115 rfl (by decide +kernel : decode cX7_readOfWho 21 = .ok (.invokevirtual 115, 3)) ?_
    refine re_istore (pc := 24) (lv1 := [(4, .int x12_), (0, .ref a0), (1, .ref a1), (2, .ref a2), (3, .ref a3)]) (by decide +kernel : decode cX7_readOfWho 24 = .ok (.istore 4, 2)) (by decide) rfl ?_
    refine re_iload (pc := 26) 0 (by decide +kernel : decode cX7_readOfWho 26 = .ok (.iload 4, 2)) rfl ?_
    refine re_iconst (pc := 28) (-1 : Int32) (by decide +kernel : decode cX7_readOfWho 28 = .ok (.iconst (-1), 1)) (by decide) ?_
    rcases rv_if_e h with ⟨g14_, h⟩ | ⟨g14_, h⟩
    · refine re_icmp_ne_f (pc := 29) 38 (by decide +kernel : decode cX7_readOfWho 29 = .ok (.if_icmp .ne 9, 3)) (by decide) g14_ ?_
      refine re_aloadn (pc := 32) 2 (by decide +kernel : decode cX7_readOfWho 32 = .ok (.aload_n 1, 1)) rfl ?_
      refine re_iconst (pc := 33) (3 : Int32) (by decide +kernel : decode cX7_readOfWho 33 = .ok (.iconst 3, 1)) (by decide) ?_
      obtain ⟨u27_, g28_, h⟩ := rv_b_e h
      obtain ⟨x30_, S31_, g32_, h⟩ := rv_bp_e h
      have m29_ := metX8_fail n S a1 (3 : Int32) _ _ g32_
      have z33_ : rv_same S S31_ := m29_.sh rfl
      refine re_cV (pc := 34) [.int (3 : Int32)] m29_ (rv_okl.k z33_) (rv_up.sh z33_) (by decide) (rv_ck_e g28_) ⟨by decide, rfl⟩ (Nat.le_of_ble_eq_true rfl) lVX7_51 rfl (by decide +kernel : decode cX7_readOfWho 34 = .ok (.invokevirtual 51, 3)) ?_
      obtain ⟨b_, gb_, h⟩ := rv_b_e h
      obtain ⟨gb1_, gb2_⟩ := rv_bo_e gb_
      refine re_nI (pc := 37) gb1_ ?_
      cases h
      exact re_iret (fun ty hty => by cases hty; exact gb2_) (by decide +kernel : decode cX7_readOfWho 37 = .ok (.ireturn, 1))
    · refine re_icmp_ne_t (pc := 29) 38 (by decide +kernel : decode cX7_readOfWho 29 = .ok (.if_icmp .ne 9, 3)) (by decide) g14_ ?_
      refine re_aloadn (pc := 38) 1 (by decide +kernel : decode cX7_readOfWho 38 = .ok (.aload_n 0, 1)) rfl ?_
      refine re_aloadn (pc := 39) 4 (by decide +kernel : decode cX7_readOfWho 39 = .ok (.aload_n 3, 1)) rfl ?_
      refine re_iconst (pc := 40) (0 : Int32) (by decide +kernel : decode cX7_readOfWho 40 = .ok (.iconst 0, 1)) (by decide) ?_
      refine re_iload (pc := 41) 0 (by decide +kernel : decode cX7_readOfWho 41 = .ok (.iload 4, 2)) rfl ?_
      obtain ⟨u15_, g16_, h⟩ := rv_b_e h
      obtain ⟨S18_, g19_, h⟩ := rv_b_e h
      have m17_ := metX7_put n S a0 a3 (0 : Int32) x12_ _ g19_
      have z20_ : rv_same S S18_ := m17_.sh rfl
      refine re_cV (pc := 43) [.ref a3, .int (0 : Int32), .int x12_] m17_ (rv_okl.k z20_) (rv_up.sh z20_) (by decide) (rv_ck_e g16_) ⟨by decide, rfl⟩ (Nat.le_of_ble_eq_true rfl) lVX7_68 rfl (by decide +kernel : decode cX7_readOfWho 43 = .ok (.invokevirtual 68, 3)) ?_
      refine re_aloadn (pc := 46) 2 (by decide +kernel : decode cX7_readOfWho 46 = .ok (.aload_n 1, 1)) rfl ?_
      obtain ⟨u21_, g22_, h⟩ := rv_b_e h
      obtain ⟨S24_, g25_, h⟩ := rv_b_e h
      have m23_ := metX8_next n S18_ a1 _ g25_
      have z26_ : rv_same S18_ S24_ := m23_.sh rfl
      refine re_cV (pc := 47) [] m23_ (rv_okl.k z26_) (rv_up.sh z26_) (by decide) (rv_ck_e g22_) ⟨by decide, rfl⟩ (Nat.le_of_ble_eq_true rfl) lVX7_65 rfl (by decide +kernel : decode cX7_readOfWho 47 = .ok (.invokevirtual 65, 3)) ?_
      refine re_iconst (pc := 50) (1 : Int32) (by decide +kernel : decode cX7_readOfWho 50 = .ok (.iconst 1, 1)) (by decide) ?_
      cases h
      exact re_iret (fun ty hty => by cases hty; rfl) (by decide +kernel : decode cX7_readOfWho 51 = .ok (.ireturn, 1))
theorem metX7_readOfWho (n : Nat) (S : rvS) (a0 : Nat) (a1 : Nat) (a2 : Nat) (a3 : Nat) (r : Int32) (S' : rvS) (h : fnX7_readOfWho n S a0 a1 a2 a3 = some (r, S')) : rv_Met yX7_readOfWho mX7_readOfWho 3 [.ref a0, .ref a1, .ref a2, .ref a3] S (some (.int r)) S' := rv_Met.of ⟨by decide +kernel, rfl, (fun z => by first | rfl | cases z), rfl⟩ (Nat.le_of_ble_eq_true rfl) rfl (eX7_readOfWho_in n S a0 a1 a2 a3 r S' h)
noncomputable def cX7_readOfNumber_29 (n : Nat) (S : rvS) (a0 : Nat) (a1 : Nat) (a2 : Nat) (x3 : Int32) : Option (Int32 × rvS) :=
  (rv_ck S 7 a1).bind fun u1_ =>
  (fnX8_next n S a1).bind fun S4_ =>
  (rv_gI S4_ 7 a1 4).bind fun x7_ =>
  if x7_ = (3 : Int32) then (
    (rv_gI S4_ 7 a1 6).bind fun x10_ =>
    (rv_ck S4_ 6 a0).bind fun u12_ =>
    (fnX7_put n S4_ a0 a2 x3 x10_).bind fun S15_ =>
    (rv_ck S15_ 7 a1).bind fun u18_ =>
    (fnX8_next n S15_ a1).bind fun S21_ =>
    some ((1 : Int32), S21_))
  else (
    (rv_ck S4_ 7 a1).bind fun u24_ =>
    rv_bp (fnX8_fail n S4_ a1 (1 : Int32)) fun x27_ S28_ =>
    (rv_bo x27_).bind fun b_ =>
    some (b_, S28_))
set_option maxRecDepth 20000 in
set_option maxHeartbeats 4000000 in
theorem eX7_readOfNumber_29 (n : Nat) (S : rvS) (a0 : Nat) (a1 : Nat) (a2 : Nat) (x3 : Int32) (r : Int32) (S' : rvS) (h : cX7_readOfNumber_29 n S a0 a1 a2 x3 = some (r, S')) : rv_Ev mX7_readOfNumber 3 29 [(0, .ref a0), (1, .ref a1), (2, .ref a2), (3, .int x3)] [] S (some (.int r)) S' := by
  unfold cX7_readOfNumber_29 at h
  refine re_aloadn (pc := 29) 1 (by decide +kernel : decode cX7_readOfNumber 29 = .ok (.aload_n 1, 1)) rfl ?_
  obtain ⟨u1_, g2_, h⟩ := rv_b_e h
  obtain ⟨S4_, g5_, h⟩ := rv_b_e h
  have m3_ := metX8_next n S a1 _ g5_
  have z6_ : rv_same S S4_ := m3_.sh rfl
  refine re_cV (pc := 30) [] m3_ (rv_okl.k z6_) (rv_up.sh z6_) (by decide) (rv_ck_e g2_) ⟨by decide, rfl⟩ (Nat.le_of_ble_eq_true rfl) lVX7_65 rfl (by decide +kernel : decode cX7_readOfNumber 30 = .ok (.invokevirtual 65, 3)) ?_
  refine re_aloadn (pc := 33) 1 (by decide +kernel : decode cX7_readOfNumber 33 = .ok (.aload_n 1, 1)) rfl ?_
  obtain ⟨x7_, g8_, h⟩ := rv_b_e h
  refine re_gI (pc := 34) g8_ lfX7_46 rfl (by decide +kernel : decode cX7_readOfNumber 34 = .ok (.getfield 46, 3)) ?_
  refine re_iconst (pc := 37) (3 : Int32) (by decide +kernel : decode cX7_readOfNumber 37 = .ok (.iconst 3, 1)) (by decide) ?_
  rcases rv_if_e h with ⟨g9_, h⟩ | ⟨g9_, h⟩
  · refine re_icmp_eq_t (pc := 38) 47 (by decide +kernel : decode cX7_readOfNumber 38 = .ok (.if_icmp .eq 9, 3)) (by decide) g9_ ?_
    refine re_aloadn (pc := 47) 0 (by decide +kernel : decode cX7_readOfNumber 47 = .ok (.aload_n 0, 1)) rfl ?_
    refine re_aloadn (pc := 48) 2 (by decide +kernel : decode cX7_readOfNumber 48 = .ok (.aload_n 2, 1)) rfl ?_
    refine re_iloadn (pc := 49) 3 (by decide +kernel : decode cX7_readOfNumber 49 = .ok (.iload_n 3, 1)) rfl ?_
    refine re_aloadn (pc := 50) 1 (by decide +kernel : decode cX7_readOfNumber 50 = .ok (.aload_n 1, 1)) rfl ?_
    obtain ⟨x10_, g11_, h⟩ := rv_b_e h
    refine re_gI (pc := 51) g11_ lfX7_121 rfl (by decide +kernel : decode cX7_readOfNumber 51 = .ok (.getfield 121, 3)) ?_
    obtain ⟨u12_, g13_, h⟩ := rv_b_e h
    obtain ⟨S15_, g16_, h⟩ := rv_b_e h
    have m14_ := metX7_put n S4_ a0 a2 x3 x10_ _ g16_
    have z17_ : rv_same S4_ S15_ := m14_.sh rfl
    refine re_cV (pc := 54) [.ref a2, .int x3, .int x10_] m14_ (rv_okl.k z17_) (rv_up.sh z17_) (by decide) (rv_ck_e g13_) ⟨by decide, rfl⟩ (Nat.le_of_ble_eq_true rfl) lVX7_68 rfl (by decide +kernel : decode cX7_readOfNumber 54 = .ok (.invokevirtual 68, 3)) ?_
    refine re_aloadn (pc := 57) 1 (by decide +kernel : decode cX7_readOfNumber 57 = .ok (.aload_n 1, 1)) rfl ?_
    obtain ⟨u18_, g19_, h⟩ := rv_b_e h
    obtain ⟨S21_, g22_, h⟩ := rv_b_e h
    have m20_ := metX8_next n S15_ a1 _ g22_
    have z23_ : rv_same S15_ S21_ := m20_.sh rfl
    refine re_cV (pc := 58) [] m20_ (rv_okl.k z23_) (rv_up.sh z23_) (by decide) (rv_ck_e g19_) ⟨by decide, rfl⟩ (Nat.le_of_ble_eq_true rfl) lVX7_65 rfl (by decide +kernel : decode cX7_readOfNumber 58 = .ok (.invokevirtual 65, 3)) ?_
    refine re_iconst (pc := 61) (1 : Int32) (by decide +kernel : decode cX7_readOfNumber 61 = .ok (.iconst 1, 1)) (by decide) ?_
    cases h
    exact re_iret (fun ty hty => by cases hty; rfl) (by decide +kernel : decode cX7_readOfNumber 62 = .ok (.ireturn, 1))
  · refine re_icmp_eq_f (pc := 38) 47 (by decide +kernel : decode cX7_readOfNumber 38 = .ok (.if_icmp .eq 9, 3)) (by decide) g9_ ?_
    refine re_aloadn (pc := 41) 1 (by decide +kernel : decode cX7_readOfNumber 41 = .ok (.aload_n 1, 1)) rfl ?_
    refine re_iconst (pc := 42) (1 : Int32) (by decide +kernel : decode cX7_readOfNumber 42 = .ok (.iconst 1, 1)) (by decide) ?_
    obtain ⟨u24_, g25_, h⟩ := rv_b_e h
    obtain ⟨x27_, S28_, g29_, h⟩ := rv_bp_e h
    have m26_ := metX8_fail n S4_ a1 (1 : Int32) _ _ g29_
    have z30_ : rv_same S4_ S28_ := m26_.sh rfl
    refine re_cV (pc := 43) [.int (1 : Int32)] m26_ (rv_okl.k z30_) (rv_up.sh z30_) (by decide) (rv_ck_e g25_) ⟨by decide, rfl⟩ (Nat.le_of_ble_eq_true rfl) lVX7_51 rfl (by decide +kernel : decode cX7_readOfNumber 43 = .ok (.invokevirtual 51, 3)) ?_
    obtain ⟨b_, gb_, h⟩ := rv_b_e h
    obtain ⟨gb1_, gb2_⟩ := rv_bo_e gb_
    refine re_nI (pc := 46) gb1_ ?_
    cases h
    exact re_iret (fun ty hty => by cases hty; exact gb2_) (by decide +kernel : decode cX7_readOfNumber 46 = .ok (.ireturn, 1))
noncomputable def fnX7_readOfNumber (n : Nat) (S : rvS) (a0 : Nat) (a1 : Nat) (a2 : Nat) : Option (Int32 × rvS) :=
  (rv_gI S 7 a1 4).bind fun x1_ =>
  if x1_ = (60 : Int32) then (
    cX7_readOfNumber_29 n S a0 a1 a2 x1_)
  else (
    if x1_ = (61 : Int32) then (
      cX7_readOfNumber_29 n S a0 a1 a2 x1_)
    else (
      if x1_ = (62 : Int32) then (
        cX7_readOfNumber_29 n S a0 a1 a2 x1_)
      else (
        (rv_ck S 7 a1).bind fun u6_ =>
        rv_bp (fnX8_fail n S a1 (1 : Int32)) fun x9_ S10_ =>
        (rv_bo x9_).bind fun b_ =>
        some (b_, S10_))))
set_option maxRecDepth 20000 in
set_option maxHeartbeats 4000000 in
theorem eX7_readOfNumber_in (n : Nat) (S : rvS) (a0 : Nat) (a1 : Nat) (a2 : Nat) (r : Int32) (S' : rvS) (h : fnX7_readOfNumber n S a0 a1 a2 = some (r, S')) : rv_Ev mX7_readOfNumber 3 0 [(0, .ref a0), (1, .ref a1), (2, .ref a2)] [] S (some (.int r)) S' := by
  unfold fnX7_readOfNumber at h
  refine re_aloadn (pc := 0) 1 (by decide +kernel : decode cX7_readOfNumber 0 = .ok (.aload_n 1, 1)) rfl ?_
  obtain ⟨x1_, g2_, h⟩ := rv_b_e h
  refine re_gI (pc := 1) g2_ lfX7_46 rfl (by decide +kernel : decode cX7_readOfNumber 1 = .ok (.getfield 46, 3)) ?_
  refine re_istoren (pc := 4) (lv1 := [(3, .int x1_), (0, .ref a0), (1, .ref a1), (2, .ref a2)]) (by decide +kernel : decode cX7_readOfNumber 4 = .ok (.istore_n 3, 1)) rfl (by decide) rfl ?_
  refine re_iloadn (pc := 5) 0 (by decide +kernel : decode cX7_readOfNumber 5 = .ok (.iload_n 3, 1)) rfl ?_
  refine re_bipush (pc := 6) (60 : Int32) (by decide +kernel : decode cX7_readOfNumber 6 = .ok (.bipush 60, 2)) (by decide) ?_
  rcases rv_if_e h with ⟨g3_, h⟩ | ⟨g3_, h⟩
  · refine re_icmp_eq_t (pc := 8) 29 (by decide +kernel : decode cX7_readOfNumber 8 = .ok (.if_icmp .eq 21, 3)) (by decide) g3_ ?_
    refine re_sub [1, 2, 3, 0] (lv1 := [(0, .ref a0), (1, .ref a1), (2, .ref a2), (3, .int x1_)]) rfl ?_
    exact eX7_readOfNumber_29 n S a0 a1 a2 x1_ _ _ h
  · refine re_icmp_eq_f (pc := 8) 29 (by decide +kernel : decode cX7_readOfNumber 8 = .ok (.if_icmp .eq 21, 3)) (by decide) g3_ ?_
    refine re_iloadn (pc := 11) 0 (by decide +kernel : decode cX7_readOfNumber 11 = .ok (.iload_n 3, 1)) rfl ?_
    refine re_bipush (pc := 12) (61 : Int32) (by decide +kernel : decode cX7_readOfNumber 12 = .ok (.bipush 61, 2)) (by decide) ?_
    rcases rv_if_e h with ⟨g4_, h⟩ | ⟨g4_, h⟩
    · refine re_icmp_eq_t (pc := 14) 29 (by decide +kernel : decode cX7_readOfNumber 14 = .ok (.if_icmp .eq 15, 3)) (by decide) g4_ ?_
      refine re_sub [1, 2, 3, 0] (lv1 := [(0, .ref a0), (1, .ref a1), (2, .ref a2), (3, .int x1_)]) rfl ?_
      exact eX7_readOfNumber_29 n S a0 a1 a2 x1_ _ _ h
    · refine re_icmp_eq_f (pc := 14) 29 (by decide +kernel : decode cX7_readOfNumber 14 = .ok (.if_icmp .eq 15, 3)) (by decide) g4_ ?_
      refine re_iloadn (pc := 17) 0 (by decide +kernel : decode cX7_readOfNumber 17 = .ok (.iload_n 3, 1)) rfl ?_
      refine re_bipush (pc := 18) (62 : Int32) (by decide +kernel : decode cX7_readOfNumber 18 = .ok (.bipush 62, 2)) (by decide) ?_
      rcases rv_if_e h with ⟨g5_, h⟩ | ⟨g5_, h⟩
      · refine re_icmp_eq_t (pc := 20) 29 (by decide +kernel : decode cX7_readOfNumber 20 = .ok (.if_icmp .eq 9, 3)) (by decide) g5_ ?_
        refine re_sub [1, 2, 3, 0] (lv1 := [(0, .ref a0), (1, .ref a1), (2, .ref a2), (3, .int x1_)]) rfl ?_
        exact eX7_readOfNumber_29 n S a0 a1 a2 x1_ _ _ h
      · refine re_icmp_eq_f (pc := 20) 29 (by decide +kernel : decode cX7_readOfNumber 20 = .ok (.if_icmp .eq 9, 3)) (by decide) g5_ ?_
        refine re_aloadn (pc := 23) 2 (by decide +kernel : decode cX7_readOfNumber 23 = .ok (.aload_n 1, 1)) rfl ?_
        refine re_iconst (pc := 24) (1 : Int32) (by decide +kernel : decode cX7_readOfNumber 24 = .ok (.iconst 1, 1)) (by decide) ?_
        obtain ⟨u6_, g7_, h⟩ := rv_b_e h
        obtain ⟨x9_, S10_, g11_, h⟩ := rv_bp_e h
        have m8_ := metX8_fail n S a1 (1 : Int32) _ _ g11_
        have z12_ : rv_same S S10_ := m8_.sh rfl
        refine re_cV (pc := 25) [.int (1 : Int32)] m8_ (rv_okl.k z12_) (rv_up.sh z12_) (by decide) (rv_ck_e g7_) ⟨by decide, rfl⟩ (Nat.le_of_ble_eq_true rfl) lVX7_51 rfl (by decide +kernel : decode cX7_readOfNumber 25 = .ok (.invokevirtual 51, 3)) ?_
        obtain ⟨b_, gb_, h⟩ := rv_b_e h
        obtain ⟨gb1_, gb2_⟩ := rv_bo_e gb_
        refine re_nI (pc := 28) gb1_ ?_
        cases h
        exact re_iret (fun ty hty => by cases hty; exact gb2_) (by decide +kernel : decode cX7_readOfNumber 28 = .ok (.ireturn, 1))
theorem metX7_readOfNumber (n : Nat) (S : rvS) (a0 : Nat) (a1 : Nat) (a2 : Nat) (r : Int32) (S' : rvS) (h : fnX7_readOfNumber n S a0 a1 a2 = some (r, S')) : rv_Met yX7_readOfNumber mX7_readOfNumber 3 [.ref a0, .ref a1, .ref a2] S (some (.int r)) S' := rv_Met.of ⟨by decide +kernel, rfl, (fun z => by first | rfl | cases z), rfl⟩ (Nat.le_of_ble_eq_true rfl) rfl (eX7_readOfNumber_in n S a0 a1 a2 r S' h)
