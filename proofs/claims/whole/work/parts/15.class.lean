noncomputable def cX12_keep_45 (n : Nat) (S : rvS) (a0 : Nat) (x1 : Int32) (x2 : Int32) (x3 : Int32) (x4 : Int32) (x5 : Int32) (t0 : Int32) : Option (Int32 × rvS) :=
  if t0 = 0 then (
    some ((-2 : Int32), S))
  else (
    (rv_gR S 10 a0 1).bind fun a2_ =>
    (rv_gR S 8 a2_ 1).bind fun a4_ =>
    (rv_gR S 10 a0 1).bind fun a6_ =>
    (rv_gR S 8 a6_ 0).bind fun a8_ =>
    (rv_ck S 5 a4_).bind fun u10_ =>
    (fnX6_goingTo n S a4_ a8_ x1 x2).bind fun x13_ =>
    (rv_gR S 10 a0 1).bind fun a15_ =>
    (rv_gR S 8 a15_ 1).bind fun a17_ =>
    (rv_gR S 10 a0 1).bind fun a19_ =>
    (rv_gR S 8 a19_ 0).bind fun a21_ =>
    (rv_ck S 5 a17_).bind fun u23_ =>
    (fnX6_goingTo n S a17_ a21_ x1 x4).bind fun x26_ =>
    (rv_gR S 10 a0 5).bind fun a28_ =>
    (rv_gR S 10 a0 1).bind fun a30_ =>
    (rv_gR S 8 a30_ 1).bind fun a32_ =>
    (rv_ck S 4 a28_).bind fun u34_ =>
    rv_bp (fnX5_chooseForTwoDays n S a28_ a32_ x13_ x3 x26_ x5) fun x37_ S38_ =>
    (rv_ck S38_ 10 a0).bind fun u41_ =>
    rv_bp (fnX12_told n S38_ a0 x37_) fun x44_ S45_ =>
    some (x44_, S45_))
set_option maxRecDepth 20000 in
set_option maxHeartbeats 4000000 in
theorem eX12_keep_45 (n : Nat) (S : rvS) (a0 : Nat) (x1 : Int32) (x2 : Int32) (x3 : Int32) (x4 : Int32) (x5 : Int32) (t0 : Int32) (r : Int32) (S' : rvS) (h : cX12_keep_45 n S a0 x1 x2 x3 x4 x5 t0 = some (r, S')) : rv_Ev mX12_keep 3 45 [(0, .ref a0), (1, .int x1), (2, .int x2), (3, .int x3), (4, .int x4), (5, .int x5)] [.int t0] S (some (.int r)) S' := by
  unfold cX12_keep_45 at h
  refine re_istore (pc := 45) (lv1 := [(6, .int t0), (0, .ref a0), (1, .int x1), (2, .int x2), (3, .int x3), (4, .int x4), (5, .int x5)]) (by decide +kernel : decode cX12_keep 45 = .ok (.istore 6, 2)) (by decide) rfl ?_
  refine re_iload (pc := 47) 0 (by decide +kernel : decode cX12_keep 47 = .ok (.iload 6, 2)) rfl ?_
  rcases rv_if_e h with ⟨g1_, h⟩ | ⟨g1_, h⟩
  · refine re_if_ne_f (pc := 49) 55 (by decide +kernel : decode cX12_keep 49 = .ok (.ifCond .ne 6, 3)) (by decide) g1_ ?_
    refine re_bipush (pc := 52) (-2 : Int32) (by decide +kernel : decode cX12_keep 52 = .ok (.bipush (-2), 2)) (by decide) ?_
    cases h
    exact re_iret (fun ty hty => by cases hty; rfl) (by decide +kernel : decode cX12_keep 54 = .ok (.ireturn, 1))
  · refine re_if_ne_t (pc := 49) 55 (by decide +kernel : decode cX12_keep 49 = .ok (.ifCond .ne 6, 3)) (by decide) g1_ ?_
    refine re_aloadn (pc := 55) 1 (by decide +kernel : decode cX12_keep 55 = .ok (.aload_n 0, 1)) rfl ?_
    obtain ⟨a2_, g3_, h⟩ := rv_b_e h
    refine re_gR (pc := 56) g3_ lfX12_19 rfl (by decide +kernel : decode cX12_keep 56 = .ok (.getfield 19, 3)) ?_
    obtain ⟨a4_, g5_, h⟩ := rv_b_e h
    refine re_gR (pc := 59) g5_ lfX12_138 rfl (by decide +kernel : decode cX12_keep 59 = .ok (.getfield 138, 3)) ?_
    refine re_aloadn (pc := 62) 1 (by decide +kernel : decode cX12_keep 62 = .ok (.aload_n 0, 1)) rfl ?_
    obtain ⟨a6_, g7_, h⟩ := rv_b_e h
    refine re_gR (pc := 63) g7_ lfX12_19 rfl (by decide +kernel : decode cX12_keep 63 = .ok (.getfield 19, 3)) ?_
    obtain ⟨a8_, g9_, h⟩ := rv_b_e h
    refine re_gR (pc := 66) g9_ lfX12_115 rfl (by decide +kernel : decode cX12_keep 66 = .ok (.getfield 115, 3)) ?_
    refine re_iloadn (pc := 69) 2 (by decide +kernel : decode cX12_keep 69 = .ok (.iload_n 1, 1)) rfl ?_
    refine re_iloadn (pc := 70) 3 (by decide +kernel : decode cX12_keep 70 = .ok (.iload_n 2, 1)) rfl ?_
    obtain ⟨u10_, g11_, h⟩ := rv_b_e h
    obtain ⟨x13_, g14_, h⟩ := rv_b_e h
    have m12_ := metX6_goingTo n S a4_ a8_ x1 x2 _ g14_
    refine re_cV (pc := 71) [.ref a8_, .int x1, .int x2] m12_ (rv_okl.k ⟨rfl, rfl⟩) (rv_up.rf _ _) (by decide) (rv_ck_e g11_) ⟨by decide, rfl⟩ (Nat.le_of_ble_eq_true rfl) lVX12_230 rfl (by decide +kernel : decode cX12_keep 71 = .ok (.invokevirtual 230, 3)) ?_
    refine re_lstore (pc := 74) (lv1 := [(7, .long x13_), (6, .int t0), (0, .ref a0), (1, .int x1), (2, .int x2), (3, .int x3), (4, .int x4), (5, .int x5)]) (by decide +kernel : decode cX12_keep 74 = .ok (.lstore 7, 2)) (by decide) rfl ?_
    refine re_aloadn (pc := 76) 2 (by decide +kernel : decode cX12_keep 76 = .ok (.aload_n 0, 1)) rfl ?_
    obtain ⟨a15_, g16_, h⟩ := rv_b_e h
    refine re_gR (pc := 77) g16_ lfX12_19 rfl (by decide +kernel : decode cX12_keep 77 = .ok (.getfield 19, 3)) ?_
    obtain ⟨a17_, g18_, h⟩ := rv_b_e h
    refine re_gR (pc := 80) g18_ lfX12_138 rfl (by decide +kernel : decode cX12_keep 80 = .ok (.getfield 138, 3)) ?_
    refine re_aloadn (pc := 83) 2 (by decide +kernel : decode cX12_keep 83 = .ok (.aload_n 0, 1)) rfl ?_
    obtain ⟨a19_, g20_, h⟩ := rv_b_e h
    refine re_gR (pc := 84) g20_ lfX12_19 rfl (by decide +kernel : decode cX12_keep 84 = .ok (.getfield 19, 3)) ?_
    obtain ⟨a21_, g22_, h⟩ := rv_b_e h
    refine re_gR (pc := 87) g22_ lfX12_115 rfl (by decide +kernel : decode cX12_keep 87 = .ok (.getfield 115, 3)) ?_
    refine re_iloadn (pc := 90) 3 (by decide +kernel : decode cX12_keep 90 = .ok (.iload_n 1, 1)) rfl ?_
    refine re_iload (pc := 91) 6 (by decide +kernel : decode cX12_keep 91 = .ok (.iload 4, 2)) rfl ?_
    obtain ⟨u23_, g24_, h⟩ := rv_b_e h
    obtain ⟨x26_, g27_, h⟩ := rv_b_e h
    have m25_ := metX6_goingTo n S a17_ a21_ x1 x4 _ g27_
    refine re_cV (pc := 93) [.ref a21_, .int x1, .int x4] m25_ (rv_okl.k ⟨rfl, rfl⟩) (rv_up.rf _ _) (by decide) (rv_ck_e g24_) ⟨by decide, rfl⟩ (Nat.le_of_ble_eq_true rfl) lVX12_230 rfl (by decide +kernel : decode cX12_keep 93 = .ok (.invokevirtual 230, 3)) ?_
    refine re_lstore (pc := 96) (lv1 := [(9, .long x26_), (7, .long x13_), (6, .int t0), (0, .ref a0), (1, .int x1), (2, .int x2), (3, .int x3), (4, .int x4), (5, .int x5)]) (by decide +kernel : decode cX12_keep 96 = .ok (.lstore 9, 2)) (by decide) rfl ?_
    refine re_aloadn (pc := 98) 3 (by decide +kernel : decode cX12_keep 98 = .ok (.aload_n 0, 1)) rfl ?_
    refine re_aloadn (pc := 99) 3 (by decide +kernel : decode cX12_keep 99 = .ok (.aload_n 0, 1)) rfl ?_
    obtain ⟨a28_, g29_, h⟩ := rv_b_e h
    refine re_gR (pc := 100) g29_ lfX12_33 rfl (by decide +kernel : decode cX12_keep 100 = .ok (.getfield 33, 3)) ?_
    refine re_aloadn (pc := 103) 3 (by decide +kernel : decode cX12_keep 103 = .ok (.aload_n 0, 1)) rfl ?_
    obtain ⟨a30_, g31_, h⟩ := rv_b_e h
    refine re_gR (pc := 104) g31_ lfX12_19 rfl (by decide +kernel : decode cX12_keep 104 = .ok (.getfield 19, 3)) ?_
    obtain ⟨a32_, g33_, h⟩ := rv_b_e h
    refine re_gR (pc := 107) g33_ lfX12_138 rfl (by decide +kernel : decode cX12_keep 107 = .ok (.getfield 138, 3)) ?_
    refine re_lload (pc := 110) 1 (by decide +kernel : decode cX12_keep 110 = .ok (.lload 7, 2)) rfl ?_
    refine re_iloadn (pc := 112) 6 (by decide +kernel : decode cX12_keep 112 = .ok (.iload_n 3, 1)) rfl ?_
    refine re_lload (pc := 113) 0 (by decide +kernel : decode cX12_keep 113 = .ok (.lload 9, 2)) rfl ?_
    refine re_iload (pc := 115) 8 (by decide +kernel : decode cX12_keep 115 = .ok (.iload 5, 2)) rfl ?_
    obtain ⟨u34_, g35_, h⟩ := rv_b_e h
    obtain ⟨x37_, S38_, g39_, h⟩ := rv_bp_e h
    have m36_ := metX5_chooseForTwoDays n S a28_ a32_ x13_ x3 x26_ x5 _ _ g39_
    have z40_ : rv_same S S38_ := m36_.sh rfl
    refine re_cV (pc := 117) [.ref a32_, .long x13_, .int x3, .long x26_, .int x5] m36_ (rv_okl.k z40_) (rv_up.sh z40_) (by decide) (rv_ck_e g35_) ⟨by decide, rfl⟩ (Nat.le_of_ble_eq_true rfl) lVX12_238 rfl (by decide +kernel : decode cX12_keep 117 = .ok (.invokevirtual 238, 3)) ?_
    obtain ⟨u41_, g42_, h⟩ := rv_b_e h
    obtain ⟨x44_, S45_, g46_, h⟩ := rv_bp_e h
    have m43_ := metX12_told n S38_ a0 x37_ _ _ g46_
    have z47_ : rv_same S38_ S45_ := m43_.sh rfl
    refine re_cV (pc := 120) [.int x37_] m43_ (rv_okl.k z47_) (rv_up.sh z47_) (by decide) (rv_ck_e g42_) ⟨by decide, rfl⟩ (Nat.le_of_ble_eq_true rfl) lVX12_206 rfl (by decide +kernel : decode cX12_keep 120 = .ok (.invokevirtual 206, 3)) ?_
    cases h
    exact re_iret (fun ty hty => by cases hty; rfl) (by decide +kernel : decode cX12_keep 123 = .ok (.ireturn, 1))
noncomputable def cX12_keep_44 (n : Nat) (S : rvS) (a0 : Nat) (x1 : Int32) (x2 : Int32) (x3 : Int32) (x4 : Int32) (x5 : Int32) : Option (Int32 × rvS) :=
  cX12_keep_45 n S a0 x1 x2 x3 x4 x5 (0 : Int32)
set_option maxRecDepth 20000 in
set_option maxHeartbeats 4000000 in
theorem eX12_keep_44 (n : Nat) (S : rvS) (a0 : Nat) (x1 : Int32) (x2 : Int32) (x3 : Int32) (x4 : Int32) (x5 : Int32) (r : Int32) (S' : rvS) (h : cX12_keep_44 n S a0 x1 x2 x3 x4 x5 = some (r, S')) : rv_Ev mX12_keep 3 44 [(0, .ref a0), (1, .int x1), (2, .int x2), (3, .int x3), (4, .int x4), (5, .int x5)] [] S (some (.int r)) S' := by
  unfold cX12_keep_44 at h
  refine re_iconst (pc := 44) (0 : Int32) (by decide +kernel : decode cX12_keep 44 = .ok (.iconst 0, 1)) (by decide) ?_
  exact eX12_keep_45 n S a0 x1 x2 x3 x4 x5 (0 : Int32) _ _ h
noncomputable def fnX12_keep (n : Nat) (S : rvS) (a0 : Nat) (x1 : Int32) (x2 : Int32) (x3 : Int32) (x4 : Int32) (x5 : Int32) : Option (Int32 × rvS) :=
  (rv_ck S 10 a0).bind fun u1_ =>
  (fnX12_isWho n S a0 x1).bind fun x4_ =>
  if x4_ = 0 then (
    cX12_keep_44 n S a0 x1 x2 x3 x4 x5)
  else (
    (rv_ck S 10 a0).bind fun u7_ =>
    (fnX12_isWho n S a0 x2).bind fun x10_ =>
    if x10_ = 0 then (
      cX12_keep_44 n S a0 x1 x2 x3 x4 x5)
    else (
      (rv_ck S 10 a0).bind fun u13_ =>
      (fnX12_isWho n S a0 x4).bind fun x16_ =>
      if x16_ = 0 then (
        cX12_keep_44 n S a0 x1 x2 x3 x4 x5)
      else (
        (fnX12_isDaySum n S x3).bind fun x20_ =>
        if x20_ = 0 then (
          cX12_keep_44 n S a0 x1 x2 x3 x4 x5)
        else (
          (fnX12_isDaySum n S x5).bind fun x24_ =>
          if x24_ = 0 then (
            cX12_keep_44 n S a0 x1 x2 x3 x4 x5)
          else (
            cX12_keep_45 n S a0 x1 x2 x3 x4 x5 (1 : Int32))))))
set_option maxRecDepth 20000 in
set_option maxHeartbeats 4000000 in
theorem eX12_keep_in (n : Nat) (S : rvS) (a0 : Nat) (x1 : Int32) (x2 : Int32) (x3 : Int32) (x4 : Int32) (x5 : Int32) (r : Int32) (S' : rvS) (h : fnX12_keep n S a0 x1 x2 x3 x4 x5 = some (r, S')) : rv_Ev mX12_keep 3 0 [(0, .ref a0), (1, .int x1), (2, .int x2), (3, .int x3), (4, .int x4), (5, .int x5)] [] S (some (.int r)) S' := by
  unfold fnX12_keep at h
  refine re_aloadn (pc := 0) 0 (by decide +kernel : decode cX12_keep 0 = .ok (.aload_n 0, 1)) rfl ?_
  refine re_iloadn (pc := 1) 1 (by decide +kernel : decode cX12_keep 1 = .ok (.iload_n 1, 1)) rfl ?_
  obtain ⟨u1_, g2_, h⟩ := rv_b_e h
  obtain ⟨x4_, g5_, h⟩ := rv_b_e h
  have m3_ := metX12_isWho n S a0 x1 _ g5_
  refine re_cV (pc := 2) [.int x1] m3_ (rv_okl.k ⟨rfl, rfl⟩) (rv_up.rf _ _) (by decide) (rv_ck_e g2_) ⟨by decide, rfl⟩ (Nat.le_of_ble_eq_true rfl) lVX12_104 rfl (by decide +kernel : decode cX12_keep 2 = .ok (.invokevirtual 104, 3)) ?_
  rcases rv_if_e h with ⟨g6_, h⟩ | ⟨g6_, h⟩
  · refine re_if_eq_t (pc := 5) 44 (by decide +kernel : decode cX12_keep 5 = .ok (.ifCond .eq 39, 3)) (by decide) g6_ ?_
    exact eX12_keep_44 n S a0 x1 x2 x3 x4 x5 _ _ h
  · refine re_if_eq_f (pc := 5) 44 (by decide +kernel : decode cX12_keep 5 = .ok (.ifCond .eq 39, 3)) (by decide) g6_ ?_
    refine re_aloadn (pc := 8) 0 (by decide +kernel : decode cX12_keep 8 = .ok (.aload_n 0, 1)) rfl ?_
    refine re_iloadn (pc := 9) 2 (by decide +kernel : decode cX12_keep 9 = .ok (.iload_n 2, 1)) rfl ?_
    obtain ⟨u7_, g8_, h⟩ := rv_b_e h
    obtain ⟨x10_, g11_, h⟩ := rv_b_e h
    have m9_ := metX12_isWho n S a0 x2 _ g11_
    refine re_cV (pc := 10) [.int x2] m9_ (rv_okl.k ⟨rfl, rfl⟩) (rv_up.rf _ _) (by decide) (rv_ck_e g8_) ⟨by decide, rfl⟩ (Nat.le_of_ble_eq_true rfl) lVX12_104 rfl (by decide +kernel : decode cX12_keep 10 = .ok (.invokevirtual 104, 3)) ?_
    rcases rv_if_e h with ⟨g12_, h⟩ | ⟨g12_, h⟩
    · refine re_if_eq_t (pc := 13) 44 (by decide +kernel : decode cX12_keep 13 = .ok (.ifCond .eq 31, 3)) (by decide) g12_ ?_
      exact eX12_keep_44 n S a0 x1 x2 x3 x4 x5 _ _ h
    · refine re_if_eq_f (pc := 13) 44 (by decide +kernel : decode cX12_keep 13 = .ok (.ifCond .eq 31, 3)) (by decide) g12_ ?_
      refine re_aloadn (pc := 16) 0 (by decide +kernel : decode cX12_keep 16 = .ok (.aload_n 0, 1)) rfl ?_
      refine re_iload (pc := 17) 4 (by decide +kernel : decode cX12_keep 17 = .ok (.iload 4, 2)) rfl ?_
      obtain ⟨u13_, g14_, h⟩ := rv_b_e h
      obtain ⟨x16_, g17_, h⟩ := rv_b_e h
      have m15_ := metX12_isWho n S a0 x4 _ g17_
      refine re_cV (pc := 19) [.int x4] m15_ (rv_okl.k ⟨rfl, rfl⟩) (rv_up.rf _ _) (by decide) (rv_ck_e g14_) ⟨by decide, rfl⟩ (Nat.le_of_ble_eq_true rfl) lVX12_104 rfl (by decide +kernel : decode cX12_keep 19 = .ok (.invokevirtual 104, 3)) ?_
      rcases rv_if_e h with ⟨g18_, h⟩ | ⟨g18_, h⟩
      · refine re_if_eq_t (pc := 22) 44 (by decide +kernel : decode cX12_keep 22 = .ok (.ifCond .eq 22, 3)) (by decide) g18_ ?_
        exact eX12_keep_44 n S a0 x1 x2 x3 x4 x5 _ _ h
      · refine re_if_eq_f (pc := 22) 44 (by decide +kernel : decode cX12_keep 22 = .ok (.ifCond .eq 22, 3)) (by decide) g18_ ?_
        refine re_iloadn (pc := 25) 3 (by decide +kernel : decode cX12_keep 25 = .ok (.iload_n 3, 1)) rfl ?_
        obtain ⟨x20_, g21_, h⟩ := rv_b_e h
        have m19_ := metX12_isDaySum n S x3 _ g21_
        refine re_cS (pc := 26) [.int x3] m19_ (rv_okl.k ⟨rfl, rfl⟩) (rv_up.rf _ _) (by decide) (Nat.le_of_ble_eq_true rfl) lSX12_235 rfl (by decide +kernel : decode cX12_keep 26 = .ok (.invokestatic 235, 3)) ?_
        rcases rv_if_e h with ⟨g22_, h⟩ | ⟨g22_, h⟩
        · refine re_if_eq_t (pc := 29) 44 (by decide +kernel : decode cX12_keep 29 = .ok (.ifCond .eq 15, 3)) (by decide) g22_ ?_
          exact eX12_keep_44 n S a0 x1 x2 x3 x4 x5 _ _ h
        · refine re_if_eq_f (pc := 29) 44 (by decide +kernel : decode cX12_keep 29 = .ok (.ifCond .eq 15, 3)) (by decide) g22_ ?_
          refine re_iload (pc := 32) 5 (by decide +kernel : decode cX12_keep 32 = .ok (.iload 5, 2)) rfl ?_
          obtain ⟨x24_, g25_, h⟩ := rv_b_e h
          have m23_ := metX12_isDaySum n S x5 _ g25_
          refine re_cS (pc := 34) [.int x5] m23_ (rv_okl.k ⟨rfl, rfl⟩) (rv_up.rf _ _) (by decide) (Nat.le_of_ble_eq_true rfl) lSX12_235 rfl (by decide +kernel : decode cX12_keep 34 = .ok (.invokestatic 235, 3)) ?_
          rcases rv_if_e h with ⟨g26_, h⟩ | ⟨g26_, h⟩
          · refine re_if_eq_t (pc := 37) 44 (by decide +kernel : decode cX12_keep 37 = .ok (.ifCond .eq 7, 3)) (by decide) g26_ ?_
            exact eX12_keep_44 n S a0 x1 x2 x3 x4 x5 _ _ h
          · refine re_if_eq_f (pc := 37) 44 (by decide +kernel : decode cX12_keep 37 = .ok (.ifCond .eq 7, 3)) (by decide) g26_ ?_
            refine re_iconst (pc := 40) (1 : Int32) (by decide +kernel : decode cX12_keep 40 = .ok (.iconst 1, 1)) (by decide) ?_
            refine re_goto (pc := 41) 45 (by decide +kernel : decode cX12_keep 41 = .ok (.goto 4, 3)) (by decide) ?_
            exact eX12_keep_45 n S a0 x1 x2 x3 x4 x5 (1 : Int32) _ _ h
theorem metX12_keep (n : Nat) (S : rvS) (a0 : Nat) (x1 : Int32) (x2 : Int32) (x3 : Int32) (x4 : Int32) (x5 : Int32) (r : Int32) (S' : rvS) (h : fnX12_keep n S a0 x1 x2 x3 x4 x5 = some (r, S')) : rv_Met yX12_keep mX12_keep 3 [.ref a0, .int x1, .int x2, .int x3, .int x4, .int x5] S (some (.int r)) S' := rv_Met.of ⟨by decide +kernel, rfl, (fun z => by first | rfl | cases z), rfl⟩ (Nat.le_of_ble_eq_true rfl) rfl (eX12_keep_in n S a0 x1 x2 x3 x4 x5 r S' h)
noncomputable def fnX12_change (n : Nat) (S : rvS) (a0 : Nat) (x1 : Int32) (x2 : Int32) : Option (Int32 × rvS) :=
  (rv_ck S 10 a0).bind fun u1_ =>
  (fnX12_isCoin n S a0 x1).bind fun x4_ =>
  if x4_ = 0 then (
    some ((-1 : Int32), S))
  else (
    (rv_ck S 10 a0).bind fun u7_ =>
    (fnX12_isCoin n S a0 x2).bind fun x10_ =>
    if x10_ = 0 then (
      some ((-1 : Int32), S))
    else (
      (rv_gR S 10 a0 1).bind fun a13_ =>
      (rv_ck S 8 a13_).bind fun u15_ =>
      (fnX9_whyNoChange n S a13_ x1 x2).bind fun x18_ =>
      if x18_ = 0 then (
        (rv_gR S 10 a0 1).bind fun a21_ =>
        (rv_ck S 8 a21_).bind fun u23_ =>
        (fnX9_swap n S a21_ x1 x2).bind fun S26_ =>
        some (x18_, S26_))
      else (
        some (x18_, S))))
set_option maxRecDepth 20000 in
set_option maxHeartbeats 4000000 in
theorem eX12_change_in (n : Nat) (S : rvS) (a0 : Nat) (x1 : Int32) (x2 : Int32) (r : Int32) (S' : rvS) (h : fnX12_change n S a0 x1 x2 = some (r, S')) : rv_Ev mX12_change 5 0 [(0, .ref a0), (1, .int x1), (2, .int x2)] [] S (some (.int r)) S' := by
  unfold fnX12_change at h
  refine re_aloadn (pc := 0) 0 (by decide +kernel : decode cX12_change 0 = .ok (.aload_n 0, 1)) rfl ?_
  refine re_iloadn (pc := 1) 1 (by decide +kernel : decode cX12_change 1 = .ok (.iload_n 1, 1)) rfl ?_
  obtain ⟨u1_, g2_, h⟩ := rv_b_e h
  obtain ⟨x4_, g5_, h⟩ := rv_b_e h
  have m3_ := metX12_isCoin n S a0 x1 _ g5_
  refine re_cV (pc := 2) [.int x1] m3_ (rv_okl.k ⟨rfl, rfl⟩) (rv_up.rf _ _) (by decide) (rv_ck_e g2_) ⟨by decide, rfl⟩ (Nat.le_of_ble_eq_true rfl) lVX12_157 rfl (by decide +kernel : decode cX12_change 2 = .ok (.invokevirtual 157, 3)) ?_
  rcases rv_if_e h with ⟨g6_, h⟩ | ⟨g6_, h⟩
  · refine re_if_eq_t (pc := 5) 16 (by decide +kernel : decode cX12_change 5 = .ok (.ifCond .eq 11, 3)) (by decide) g6_ ?_
    refine re_iconst (pc := 16) (-1 : Int32) (by decide +kernel : decode cX12_change 16 = .ok (.iconst (-1), 1)) (by decide) ?_
    cases h
    exact re_iret (fun ty hty => by cases hty; rfl) (by decide +kernel : decode cX12_change 17 = .ok (.ireturn, 1))
  · refine re_if_eq_f (pc := 5) 16 (by decide +kernel : decode cX12_change 5 = .ok (.ifCond .eq 11, 3)) (by decide) g6_ ?_
    refine re_aloadn (pc := 8) 0 (by decide +kernel : decode cX12_change 8 = .ok (.aload_n 0, 1)) rfl ?_
    refine re_iloadn (pc := 9) 2 (by decide +kernel : decode cX12_change 9 = .ok (.iload_n 2, 1)) rfl ?_
    obtain ⟨u7_, g8_, h⟩ := rv_b_e h
    obtain ⟨x10_, g11_, h⟩ := rv_b_e h
    have m9_ := metX12_isCoin n S a0 x2 _ g11_
    refine re_cV (pc := 10) [.int x2] m9_ (rv_okl.k ⟨rfl, rfl⟩) (rv_up.rf _ _) (by decide) (rv_ck_e g8_) ⟨by decide, rfl⟩ (Nat.le_of_ble_eq_true rfl) lVX12_157 rfl (by decide +kernel : decode cX12_change 10 = .ok (.invokevirtual 157, 3)) ?_
    rcases rv_if_e h with ⟨g12_, h⟩ | ⟨g12_, h⟩
    · refine re_if_ne_f (pc := 13) 18 (by decide +kernel : decode cX12_change 13 = .ok (.ifCond .ne 5, 3)) (by decide) g12_ ?_
      refine re_iconst (pc := 16) (-1 : Int32) (by decide +kernel : decode cX12_change 16 = .ok (.iconst (-1), 1)) (by decide) ?_
      cases h
      exact re_iret (fun ty hty => by cases hty; rfl) (by decide +kernel : decode cX12_change 17 = .ok (.ireturn, 1))
    · refine re_if_ne_t (pc := 13) 18 (by decide +kernel : decode cX12_change 13 = .ok (.ifCond .ne 5, 3)) (by decide) g12_ ?_
      refine re_aloadn (pc := 18) 0 (by decide +kernel : decode cX12_change 18 = .ok (.aload_n 0, 1)) rfl ?_
      obtain ⟨a13_, g14_, h⟩ := rv_b_e h
      refine re_gR (pc := 19) g14_ lfX12_19 rfl (by decide +kernel : decode cX12_change 19 = .ok (.getfield 19, 3)) ?_
      refine re_iloadn (pc := 22) 1 (by decide +kernel : decode cX12_change 22 = .ok (.iload_n 1, 1)) rfl ?_
      refine re_iloadn (pc := 23) 2 (by decide +kernel : decode cX12_change 23 = .ok (.iload_n 2, 1)) rfl ?_
      obtain ⟨u15_, g16_, h⟩ := rv_b_e h
      obtain ⟨x18_, g19_, h⟩ := rv_b_e h
      have m17_ := metX9_whyNoChange n S a13_ x1 x2 _ g19_
      refine re_cV (pc := 24) [.int x1, .int x2] m17_ (rv_okl.k ⟨rfl, rfl⟩) (rv_up.rf _ _) (by decide) (rv_ck_e g16_) ⟨by decide, rfl⟩ (Nat.le_of_ble_eq_true rfl) lVX12_242 rfl (by decide +kernel : decode cX12_change 24 = .ok (.invokevirtual 242, 3)) ?_
      refine re_istoren (pc := 27) (lv1 := [(3, .int x18_), (0, .ref a0), (1, .int x1), (2, .int x2)]) (by decide +kernel : decode cX12_change 27 = .ok (.istore_n 3, 1)) rfl (by decide) rfl ?_
      refine re_iloadn (pc := 28) 0 (by decide +kernel : decode cX12_change 28 = .ok (.iload_n 3, 1)) rfl ?_
      rcases rv_if_e h with ⟨g20_, h⟩ | ⟨g20_, h⟩
      · refine re_if_ne_f (pc := 29) 41 (by decide +kernel : decode cX12_change 29 = .ok (.ifCond .ne 12, 3)) (by decide) g20_ ?_
        refine re_aloadn (pc := 32) 1 (by decide +kernel : decode cX12_change 32 = .ok (.aload_n 0, 1)) rfl ?_
        obtain ⟨a21_, g22_, h⟩ := rv_b_e h
        refine re_gR (pc := 33) g22_ lfX12_19 rfl (by decide +kernel : decode cX12_change 33 = .ok (.getfield 19, 3)) ?_
        refine re_iloadn (pc := 36) 2 (by decide +kernel : decode cX12_change 36 = .ok (.iload_n 1, 1)) rfl ?_
        refine re_iloadn (pc := 37) 3 (by decide +kernel : decode cX12_change 37 = .ok (.iload_n 2, 1)) rfl ?_
        obtain ⟨u23_, g24_, h⟩ := rv_b_e h
        obtain ⟨S26_, g27_, h⟩ := rv_b_e h
        have m25_ := metX9_swap n S a21_ x1 x2 _ g27_
        have z28_ : rv_same S S26_ := m25_.sh rfl
        refine re_cV (pc := 38) [.int x1, .int x2] m25_ (rv_okl.k z28_) (rv_up.sh z28_) (by decide) (rv_ck_e g24_) ⟨by decide, rfl⟩ (Nat.le_of_ble_eq_true rfl) lVX12_245 rfl (by decide +kernel : decode cX12_change 38 = .ok (.invokevirtual 245, 3)) ?_
        refine re_iloadn (pc := 41) 0 (by decide +kernel : decode cX12_change 41 = .ok (.iload_n 3, 1)) rfl ?_
        cases h
        exact re_iret (fun ty hty => by cases hty; rfl) (by decide +kernel : decode cX12_change 42 = .ok (.ireturn, 1))
      · refine re_if_ne_t (pc := 29) 41 (by decide +kernel : decode cX12_change 29 = .ok (.ifCond .ne 12, 3)) (by decide) g20_ ?_
        refine re_iloadn (pc := 41) 0 (by decide +kernel : decode cX12_change 41 = .ok (.iload_n 3, 1)) rfl ?_
        cases h
        exact re_iret (fun ty hty => by cases hty; rfl) (by decide +kernel : decode cX12_change 42 = .ok (.ireturn, 1))
theorem metX12_change (n : Nat) (S : rvS) (a0 : Nat) (x1 : Int32) (x2 : Int32) (r : Int32) (S' : rvS) (h : fnX12_change n S a0 x1 x2 = some (r, S')) : rv_Met yX12_change mX12_change 5 [.ref a0, .int x1, .int x2] S (some (.int r)) S' := rv_Met.of ⟨by decide +kernel, rfl, (fun z => by first | rfl | cases z), rfl⟩ (Nat.le_of_ble_eq_true rfl) rfl (eX12_change_in n S a0 x1 x2 r S' h)
noncomputable def fnX12_earned (n : Nat) (S : rvS) (a0 : Nat) (x1 : Int32) : Option Int32 :=
  (rv_ck S 10 a0).bind fun u1_ =>
  (fnX12_isWho n S a0 x1).bind fun x4_ =>
  if x4_ = 0 then (
    some (-1 : Int32))
  else (
    (rv_gR S 10 a0 1).bind fun a7_ =>
    (rv_gR S 8 a7_ 0).bind fun a9_ =>
    (rv_gR S 0 a9_ 5).bind fun a11_ =>
    (rv_aI S 0 a11_ x1).bind fun x13_ =>
    some x13_)
set_option maxRecDepth 20000 in
set_option maxHeartbeats 4000000 in
theorem eX12_earned_in (n : Nat) (S : rvS) (a0 : Nat) (x1 : Int32) (r : Int32) (h : fnX12_earned n S a0 x1 = some r) : rv_Ev mX12_earned 2 0 [(0, .ref a0), (1, .int x1)] [] S (some (.int r)) S := by
  unfold fnX12_earned at h
  refine re_aloadn (pc := 0) 0 (by decide +kernel : decode cX12_earned 0 = .ok (.aload_n 0, 1)) rfl ?_
  refine re_iloadn (pc := 1) 1 (by decide +kernel : decode cX12_earned 1 = .ok (.iload_n 1, 1)) rfl ?_
  obtain ⟨u1_, g2_, h⟩ := rv_b_e h
  obtain ⟨x4_, g5_, h⟩ := rv_b_e h
  have m3_ := metX12_isWho n S a0 x1 _ g5_
  refine re_cV (pc := 2) [.int x1] m3_ (rv_okl.k ⟨rfl, rfl⟩) (rv_up.rf _ _) (by decide) (rv_ck_e g2_) ⟨by decide, rfl⟩ (Nat.le_of_ble_eq_true rfl) lVX12_104 rfl (by decide +kernel : decode cX12_earned 2 = .ok (.invokevirtual 104, 3)) ?_
  rcases rv_if_e h with ⟨g6_, h⟩ | ⟨g6_, h⟩
  · refine re_if_eq_t (pc := 5) 23 (by decide +kernel : decode cX12_earned 5 = .ok (.ifCond .eq 18, 3)) (by decide) g6_ ?_
    refine re_iconst (pc := 23) (-1 : Int32) (by decide +kernel : decode cX12_earned 23 = .ok (.iconst (-1), 1)) (by decide) ?_
    cases h
    exact re_iret (fun ty hty => by cases hty; rfl) (by decide +kernel : decode cX12_earned 24 = .ok (.ireturn, 1))
  · refine re_if_eq_f (pc := 5) 23 (by decide +kernel : decode cX12_earned 5 = .ok (.ifCond .eq 18, 3)) (by decide) g6_ ?_
    refine re_aloadn (pc := 8) 0 (by decide +kernel : decode cX12_earned 8 = .ok (.aload_n 0, 1)) rfl ?_
    obtain ⟨a7_, g8_, h⟩ := rv_b_e h
    refine re_gR (pc := 9) g8_ lfX12_19 rfl (by decide +kernel : decode cX12_earned 9 = .ok (.getfield 19, 3)) ?_
    obtain ⟨a9_, g10_, h⟩ := rv_b_e h
    refine re_gR (pc := 12) g10_ lfX12_115 rfl (by decide +kernel : decode cX12_earned 12 = .ok (.getfield 115, 3)) ?_
    obtain ⟨a11_, g12_, h⟩ := rv_b_e h
    refine re_gR (pc := 15) g12_ lfX12_248 rfl (by decide +kernel : decode cX12_earned 15 = .ok (.getfield 248, 3)) ?_
    refine re_iloadn (pc := 18) 1 (by decide +kernel : decode cX12_earned 18 = .ok (.iload_n 1, 1)) rfl ?_
    obtain ⟨x13_, g14_, h⟩ := rv_b_e h
    refine re_aI (pc := 19) g14_ (by decide +kernel : decode cX12_earned 19 = .ok (.iaload, 1)) ?_
    refine re_goto (pc := 20) 24 (by decide +kernel : decode cX12_earned 20 = .ok (.goto 4, 3)) (by decide) ?_
    cases h
    exact re_iret (fun ty hty => by cases hty; rfl) (by decide +kernel : decode cX12_earned 24 = .ok (.ireturn, 1))
theorem metX12_earned (n : Nat) (S : rvS) (a0 : Nat) (x1 : Int32) (r : Int32) (h : fnX12_earned n S a0 x1 = some r) : rv_Met yX12_earned mX12_earned 2 [.ref a0, .int x1] S (some (.int r)) S := rv_Met.of ⟨by decide +kernel, rfl, (fun z => by first | rfl | cases z), rfl⟩ (Nat.le_of_ble_eq_true rfl) rfl (eX12_earned_in n S a0 x1 r h)
noncomputable def cX12_changed_76 (n : Nat) (K23 : Nat → Int32 → Int32 → Int32 → Int32 → Option Int32) (S : rvS) (a0 : Nat) (x1 : Int32) (x2 : Int32) (x3 : Int32) (x4 : Int32) (t0 : Int32) : Option Int32 :=
  if t0 = 0 then (
    rv_lt (x4 + (1)) fun x2_ =>
    K23 a0 x1 x2 x3 x2_)
  else (
    (rv_gR S 10 a0 1).bind fun a4_ =>
    (rv_ck S 8 a4_).bind fun u6_ =>
    (fnX9_whyNoChange n S a4_ x1 x4).bind fun x9_ =>
    if x9_ = 0 then (
      (rv_gR S 10 a0 1).bind fun a14_ =>
      (rv_ck S 8 a14_).bind fun u16_ =>
      (fnX9_goesOnAfterChange n S a14_ x1 x4 x2).bind fun x19_ =>
      if x19_ = 0 then (
        rv_lt (x4 + (1)) fun x22_ =>
        K23 a0 x1 x2 x3 x22_)
      else (
        rv_lt (x4 + (1)) fun x24_ =>
        K23 a0 x1 x2 x4 x24_))
    else (
      rv_lt (x4 + (1)) fun x12_ =>
      K23 a0 x1 x2 x3 x12_))
set_option maxRecDepth 20000 in
set_option maxHeartbeats 4000000 in
theorem eX12_changed_76 (n : Nat) (S : rvS) (K23 : Nat → Int32 → Int32 → Int32 → Int32 → Option Int32) (hK23 : ∀ (a0 : Nat) (x1 : Int32) (x2 : Int32) (x3 : Int32) (x4 : Int32) (r : Int32), K23 a0 x1 x2 x3 x4 = some r → rv_Ev mX12_changed 5 23 [(0, .ref a0), (1, .int x1), (2, .int x2), (3, .int x3), (4, .int x4)] [] S (some (.int r)) S) (a0 : Nat) (x1 : Int32) (x2 : Int32) (x3 : Int32) (x4 : Int32) (t0 : Int32) (r : Int32) (h : cX12_changed_76 n K23 S a0 x1 x2 x3 x4 t0 = some r) : rv_Ev mX12_changed 5 76 [(0, .ref a0), (1, .int x1), (2, .int x2), (3, .int x3), (4, .int x4)] [.int t0] S (some (.int r)) S := by
  unfold cX12_changed_76 at h
  refine re_istore (pc := 76) (lv1 := [(5, .int t0), (0, .ref a0), (1, .int x1), (2, .int x2), (3, .int x3), (4, .int x4)]) (by decide +kernel : decode cX12_changed 76 = .ok (.istore 5, 2)) (by decide) rfl ?_
  refine re_iload (pc := 78) 0 (by decide +kernel : decode cX12_changed 78 = .ok (.iload 5, 2)) rfl ?_
  rcases rv_if_e h with ⟨g1_, h⟩ | ⟨g1_, h⟩
  · refine re_if_eq_t (pc := 80) 113 (by decide +kernel : decode cX12_changed 80 = .ok (.ifCond .eq 33, 3)) (by decide) g1_ ?_
    obtain ⟨x2_, g3_, h⟩ := rv_lt_e h
    refine re_iinc (pc := 113) 5 x2_ (lv1 := [(4, .int x2_), (5, .int t0), (0, .ref a0), (1, .int x1), (2, .int x2), (3, .int x3)]) (by decide +kernel : decode cX12_changed 113 = .ok (.iinc 4 1, 3)) rfl g3_ (by decide) rfl ?_
    refine re_goto (pc := 116) 23 (by decide +kernel : decode cX12_changed 116 = .ok (.goto (-93), 3)) (by decide) ?_
    refine re_sub [2, 3, 4, 5, 0] (lv1 := [(0, .ref a0), (1, .int x1), (2, .int x2), (3, .int x3), (4, .int x2_)]) rfl ?_
    exact hK23 a0 x1 x2 x3 x2_ _ h
  · refine re_if_eq_f (pc := 80) 113 (by decide +kernel : decode cX12_changed 80 = .ok (.ifCond .eq 33, 3)) (by decide) g1_ ?_
    refine re_aloadn (pc := 83) 1 (by decide +kernel : decode cX12_changed 83 = .ok (.aload_n 0, 1)) rfl ?_
    obtain ⟨a4_, g5_, h⟩ := rv_b_e h
    refine re_gR (pc := 84) g5_ lfX12_19 rfl (by decide +kernel : decode cX12_changed 84 = .ok (.getfield 19, 3)) ?_
    refine re_iloadn (pc := 87) 2 (by decide +kernel : decode cX12_changed 87 = .ok (.iload_n 1, 1)) rfl ?_
    refine re_iload (pc := 88) 5 (by decide +kernel : decode cX12_changed 88 = .ok (.iload 4, 2)) rfl ?_
    obtain ⟨u6_, g7_, h⟩ := rv_b_e h
    obtain ⟨x9_, g10_, h⟩ := rv_b_e h
    have m8_ := metX9_whyNoChange n S a4_ x1 x4 _ g10_
    refine re_cV (pc := 90) [.int x1, .int x4] m8_ (rv_okl.k ⟨rfl, rfl⟩) (rv_up.rf _ _) (by decide) (rv_ck_e g7_) ⟨by decide, rfl⟩ (Nat.le_of_ble_eq_true rfl) lVX12_242 rfl (by decide +kernel : decode cX12_changed 90 = .ok (.invokevirtual 242, 3)) ?_
    rcases rv_if_e h with ⟨g11_, h⟩ | ⟨g11_, h⟩
    · refine re_if_ne_f (pc := 93) 113 (by decide +kernel : decode cX12_changed 93 = .ok (.ifCond .ne 20, 3)) (by decide) g11_ ?_
      refine re_aloadn (pc := 96) 1 (by decide +kernel : decode cX12_changed 96 = .ok (.aload_n 0, 1)) rfl ?_
      obtain ⟨a14_, g15_, h⟩ := rv_b_e h
      refine re_gR (pc := 97) g15_ lfX12_19 rfl (by decide +kernel : decode cX12_changed 97 = .ok (.getfield 19, 3)) ?_
      refine re_iloadn (pc := 100) 2 (by decide +kernel : decode cX12_changed 100 = .ok (.iload_n 1, 1)) rfl ?_
      refine re_iload (pc := 101) 5 (by decide +kernel : decode cX12_changed 101 = .ok (.iload 4, 2)) rfl ?_
      refine re_iloadn (pc := 103) 3 (by decide +kernel : decode cX12_changed 103 = .ok (.iload_n 2, 1)) rfl ?_
      obtain ⟨u16_, g17_, h⟩ := rv_b_e h
      obtain ⟨x19_, g20_, h⟩ := rv_b_e h
      have m18_ := metX9_goesOnAfterChange n S a14_ x1 x4 x2 _ g20_
      refine re_cV (pc := 104) [.int x1, .int x4, .int x2] m18_ (rv_okl.k ⟨rfl, rfl⟩) (rv_up.rf _ _) (by decide) (rv_ck_e g17_) ⟨by decide, rfl⟩ (Nat.le_of_ble_eq_true rfl) lVX12_251 rfl (by decide +kernel : decode cX12_changed 104 = .ok (.invokevirtual 251, 3)) ?_
      rcases rv_if_e h with ⟨g21_, h⟩ | ⟨g21_, h⟩
      · refine re_if_eq_t (pc := 107) 113 (by decide +kernel : decode cX12_changed 107 = .ok (.ifCond .eq 6, 3)) (by decide) g21_ ?_
        obtain ⟨x22_, g23_, h⟩ := rv_lt_e h
        refine re_iinc (pc := 113) 5 x22_ (lv1 := [(4, .int x22_), (5, .int t0), (0, .ref a0), (1, .int x1), (2, .int x2), (3, .int x3)]) (by decide +kernel : decode cX12_changed 113 = .ok (.iinc 4 1, 3)) rfl g23_ (by decide) rfl ?_
        refine re_goto (pc := 116) 23 (by decide +kernel : decode cX12_changed 116 = .ok (.goto (-93), 3)) (by decide) ?_
        refine re_sub [2, 3, 4, 5, 0] (lv1 := [(0, .ref a0), (1, .int x1), (2, .int x2), (3, .int x3), (4, .int x22_)]) rfl ?_
        exact hK23 a0 x1 x2 x3 x22_ _ h
      · refine re_if_eq_f (pc := 107) 113 (by decide +kernel : decode cX12_changed 107 = .ok (.ifCond .eq 6, 3)) (by decide) g21_ ?_
        refine re_iload (pc := 110) 5 (by decide +kernel : decode cX12_changed 110 = .ok (.iload 4, 2)) rfl ?_
        refine re_istoren (pc := 112) (lv1 := [(3, .int x4), (5, .int t0), (0, .ref a0), (1, .int x1), (2, .int x2), (4, .int x4)]) (by decide +kernel : decode cX12_changed 112 = .ok (.istore_n 3, 1)) rfl (by decide) rfl ?_
        obtain ⟨x24_, g25_, h⟩ := rv_lt_e h
        refine re_iinc (pc := 113) 5 x24_ (lv1 := [(4, .int x24_), (3, .int x4), (5, .int t0), (0, .ref a0), (1, .int x1), (2, .int x2)]) (by decide +kernel : decode cX12_changed 113 = .ok (.iinc 4 1, 3)) rfl g25_ (by decide) rfl ?_
        refine re_goto (pc := 116) 23 (by decide +kernel : decode cX12_changed 116 = .ok (.goto (-93), 3)) (by decide) ?_
        refine re_sub [3, 4, 5, 1, 0] (lv1 := [(0, .ref a0), (1, .int x1), (2, .int x2), (3, .int x4), (4, .int x24_)]) rfl ?_
        exact hK23 a0 x1 x2 x4 x24_ _ h
    · refine re_if_ne_t (pc := 93) 113 (by decide +kernel : decode cX12_changed 93 = .ok (.ifCond .ne 20, 3)) (by decide) g11_ ?_
      obtain ⟨x12_, g13_, h⟩ := rv_lt_e h
      refine re_iinc (pc := 113) 5 x12_ (lv1 := [(4, .int x12_), (5, .int t0), (0, .ref a0), (1, .int x1), (2, .int x2), (3, .int x3)]) (by decide +kernel : decode cX12_changed 113 = .ok (.iinc 4 1, 3)) rfl g13_ (by decide) rfl ?_
      refine re_goto (pc := 116) 23 (by decide +kernel : decode cX12_changed 116 = .ok (.goto (-93), 3)) (by decide) ?_
      refine re_sub [2, 3, 4, 5, 0] (lv1 := [(0, .ref a0), (1, .int x1), (2, .int x2), (3, .int x3), (4, .int x12_)]) rfl ?_
      exact hK23 a0 x1 x2 x3 x12_ _ h
noncomputable def cX12_changed_71 (n : Nat) (K23 : Nat → Int32 → Int32 → Int32 → Int32 → Option Int32) (S : rvS) (a0 : Nat) (x1 : Int32) (x2 : Int32) (x3 : Int32) (x4 : Int32) : Option Int32 :=
  cX12_changed_76 n K23 S a0 x1 x2 x3 x4 (1 : Int32)
set_option maxRecDepth 20000 in
set_option maxHeartbeats 4000000 in
theorem eX12_changed_71 (n : Nat) (S : rvS) (K23 : Nat → Int32 → Int32 → Int32 → Int32 → Option Int32) (hK23 : ∀ (a0 : Nat) (x1 : Int32) (x2 : Int32) (x3 : Int32) (x4 : Int32) (r : Int32), K23 a0 x1 x2 x3 x4 = some r → rv_Ev mX12_changed 5 23 [(0, .ref a0), (1, .int x1), (2, .int x2), (3, .int x3), (4, .int x4)] [] S (some (.int r)) S) (a0 : Nat) (x1 : Int32) (x2 : Int32) (x3 : Int32) (x4 : Int32) (r : Int32) (h : cX12_changed_71 n K23 S a0 x1 x2 x3 x4 = some r) : rv_Ev mX12_changed 5 71 [(0, .ref a0), (1, .int x1), (2, .int x2), (3, .int x3), (4, .int x4)] [] S (some (.int r)) S := by
  unfold cX12_changed_71 at h
  refine re_iconst (pc := 71) (1 : Int32) (by decide +kernel : decode cX12_changed 71 = .ok (.iconst 1, 1)) (by decide) ?_
  refine re_goto (pc := 72) 76 (by decide +kernel : decode cX12_changed 72 = .ok (.goto 4, 3)) (by decide) ?_
  exact eX12_changed_76 n S K23 hK23 a0 x1 x2 x3 x4 (1 : Int32) _ h
noncomputable def cX12_changed_23 (n : Nat) (S : rvS) : Nat → Nat → Int32 → Int32 → Int32 → Int32 → Option Int32
  | 0, _, _, _, _, _ => none
  | k + 1, a0, x1, x2, x3, x4 =>
    (rv_gR S 10 a0 1).bind fun a1_ =>
    (rv_gR S 8 a1_ 1).bind fun a3_ =>
    (rv_gI S 5 a3_ 0).bind fun x5_ =>
    if x5_ ≤ x4 then (
      some x3)
    else (
      if x3 = (-1 : Int32) then (
        cX12_changed_71 n (fun a0 x1 x2 x3 x4 => cX12_changed_23 n S k a0 x1 x2 x3 x4) S a0 x1 x2 x3 x4)
      else (
        (rv_gR S 10 a0 1).bind fun a9_ =>
        (rv_gR S 8 a9_ 1).bind fun a11_ =>
        (rv_gR S 5 a11_ 2).bind fun a13_ =>
        (rv_aI S 0 a13_ x4).bind fun x15_ =>
        (rv_gR S 10 a0 1).bind fun a17_ =>
        (rv_gR S 8 a17_ 1).bind fun a19_ =>
        (rv_gR S 5 a19_ 2).bind fun a21_ =>
        (rv_aI S 0 a21_ x3).bind fun x23_ =>
        if x15_ ≤ x23_ then (
          cX12_changed_76 n (fun a0 x1 x2 x3 x4 => cX12_changed_23 n S k a0 x1 x2 x3 x4) S a0 x1 x2 x3 x4 (0 : Int32))
        else (
          cX12_changed_71 n (fun a0 x1 x2 x3 x4 => cX12_changed_23 n S k a0 x1 x2 x3 x4) S a0 x1 x2 x3 x4)))
set_option maxRecDepth 20000 in
set_option maxHeartbeats 4000000 in
theorem eX12_changed_23 (n : Nat) (S : rvS) : ∀ (k : Nat) (a0 : Nat) (x1 : Int32) (x2 : Int32) (x3 : Int32) (x4 : Int32) (r : Int32), cX12_changed_23 n S k a0 x1 x2 x3 x4 = some r → rv_Ev mX12_changed 5 23 [(0, .ref a0), (1, .int x1), (2, .int x2), (3, .int x3), (4, .int x4)] [] S (some (.int r)) S := by
  intro k
  induction k with
  | zero => intro a0 x1 x2 x3 x4 r h; exact absurd h (by simp [cX12_changed_23])
  | succ k ih =>
    intro a0 x1 x2 x3 x4 r h
    unfold cX12_changed_23 at h
    refine re_iload (pc := 23) 4 (by decide +kernel : decode cX12_changed 23 = .ok (.iload 4, 2)) rfl ?_
    refine re_aloadn (pc := 25) 0 (by decide +kernel : decode cX12_changed 25 = .ok (.aload_n 0, 1)) rfl ?_
    obtain ⟨a1_, g2_, h⟩ := rv_b_e h
    refine re_gR (pc := 26) g2_ lfX12_19 rfl (by decide +kernel : decode cX12_changed 26 = .ok (.getfield 19, 3)) ?_
    obtain ⟨a3_, g4_, h⟩ := rv_b_e h
    refine re_gR (pc := 29) g4_ lfX12_138 rfl (by decide +kernel : decode cX12_changed 29 = .ok (.getfield 138, 3)) ?_
    obtain ⟨x5_, g6_, h⟩ := rv_b_e h
    refine re_gI (pc := 32) g6_ lfX12_216 rfl (by decide +kernel : decode cX12_changed 32 = .ok (.getfield 216, 3)) ?_
    rcases rv_if_e h with ⟨g7_, h⟩ | ⟨g7_, h⟩
    · refine re_icmp_ge_t (pc := 35) 119 (by decide +kernel : decode cX12_changed 35 = .ok (.if_icmp .ge 84, 3)) (by decide) g7_ ?_
      refine re_iloadn (pc := 119) 3 (by decide +kernel : decode cX12_changed 119 = .ok (.iload_n 3, 1)) rfl ?_
      cases h
      exact re_iret (fun ty hty => by cases hty; rfl) (by decide +kernel : decode cX12_changed 120 = .ok (.ireturn, 1))
    · refine re_icmp_ge_f (pc := 35) 119 (by decide +kernel : decode cX12_changed 35 = .ok (.if_icmp .ge 84, 3)) (by decide) g7_ ?_
      refine re_iloadn (pc := 38) 3 (by decide +kernel : decode cX12_changed 38 = .ok (.iload_n 3, 1)) rfl ?_
      refine re_iconst (pc := 39) (-1 : Int32) (by decide +kernel : decode cX12_changed 39 = .ok (.iconst (-1), 1)) (by decide) ?_
      rcases rv_if_e h with ⟨g8_, h⟩ | ⟨g8_, h⟩
      · refine re_icmp_eq_t (pc := 40) 71 (by decide +kernel : decode cX12_changed 40 = .ok (.if_icmp .eq 31, 3)) (by decide) g8_ ?_
        exact eX12_changed_71 n S (fun a0 x1 x2 x3 x4 => cX12_changed_23 n S k a0 x1 x2 x3 x4) (fun a0 x1 x2 x3 x4 _ h => ih a0 x1 x2 x3 x4 _ h) a0 x1 x2 x3 x4 _ h
      · refine re_icmp_eq_f (pc := 40) 71 (by decide +kernel : decode cX12_changed 40 = .ok (.if_icmp .eq 31, 3)) (by decide) g8_ ?_
        refine re_aloadn (pc := 43) 0 (by decide +kernel : decode cX12_changed 43 = .ok (.aload_n 0, 1)) rfl ?_
        obtain ⟨a9_, g10_, h⟩ := rv_b_e h
        refine re_gR (pc := 44) g10_ lfX12_19 rfl (by decide +kernel : decode cX12_changed 44 = .ok (.getfield 19, 3)) ?_
        obtain ⟨a11_, g12_, h⟩ := rv_b_e h
        refine re_gR (pc := 47) g12_ lfX12_138 rfl (by decide +kernel : decode cX12_changed 47 = .ok (.getfield 138, 3)) ?_
        obtain ⟨a13_, g14_, h⟩ := rv_b_e h
        refine re_gR (pc := 50) g14_ lfX12_162 rfl (by decide +kernel : decode cX12_changed 50 = .ok (.getfield 162, 3)) ?_
        refine re_iload (pc := 53) 4 (by decide +kernel : decode cX12_changed 53 = .ok (.iload 4, 2)) rfl ?_
        obtain ⟨x15_, g16_, h⟩ := rv_b_e h
        refine re_aI (pc := 55) g16_ (by decide +kernel : decode cX12_changed 55 = .ok (.iaload, 1)) ?_
        refine re_aloadn (pc := 56) 0 (by decide +kernel : decode cX12_changed 56 = .ok (.aload_n 0, 1)) rfl ?_
        obtain ⟨a17_, g18_, h⟩ := rv_b_e h
        refine re_gR (pc := 57) g18_ lfX12_19 rfl (by decide +kernel : decode cX12_changed 57 = .ok (.getfield 19, 3)) ?_
        obtain ⟨a19_, g20_, h⟩ := rv_b_e h
        refine re_gR (pc := 60) g20_ lfX12_138 rfl (by decide +kernel : decode cX12_changed 60 = .ok (.getfield 138, 3)) ?_
        obtain ⟨a21_, g22_, h⟩ := rv_b_e h
        refine re_gR (pc := 63) g22_ lfX12_162 rfl (by decide +kernel : decode cX12_changed 63 = .ok (.getfield 162, 3)) ?_
        refine re_iloadn (pc := 66) 3 (by decide +kernel : decode cX12_changed 66 = .ok (.iload_n 3, 1)) rfl ?_
        obtain ⟨x23_, g24_, h⟩ := rv_b_e h
        refine re_aI (pc := 67) g24_ (by decide +kernel : decode cX12_changed 67 = .ok (.iaload, 1)) ?_
        rcases rv_if_e h with ⟨g25_, h⟩ | ⟨g25_, h⟩
        · refine re_icmp_le_t (pc := 68) 75 (by decide +kernel : decode cX12_changed 68 = .ok (.if_icmp .le 7, 3)) (by decide) g25_ ?_
          refine re_iconst (pc := 75) (0 : Int32) (by decide +kernel : decode cX12_changed 75 = .ok (.iconst 0, 1)) (by decide) ?_
          exact eX12_changed_76 n S (fun a0 x1 x2 x3 x4 => cX12_changed_23 n S k a0 x1 x2 x3 x4) (fun a0 x1 x2 x3 x4 _ h => ih a0 x1 x2 x3 x4 _ h) a0 x1 x2 x3 x4 (0 : Int32) _ h
        · refine re_icmp_le_f (pc := 68) 75 (by decide +kernel : decode cX12_changed 68 = .ok (.if_icmp .le 7, 3)) (by decide) g25_ ?_
          exact eX12_changed_71 n S (fun a0 x1 x2 x3 x4 => cX12_changed_23 n S k a0 x1 x2 x3 x4) (fun a0 x1 x2 x3 x4 _ h => ih a0 x1 x2 x3 x4 _ h) a0 x1 x2 x3 x4 _ h
noncomputable def fnX12_changed (n : Nat) (S : rvS) (a0 : Nat) (x1 : Int32) (x2 : Int32) : Option Int32 :=
  (rv_ck S 10 a0).bind fun u1_ =>
  (fnX12_isCoin n S a0 x1).bind fun x4_ =>
  if x4_ = 0 then (
    some (-1 : Int32))
  else (
    (rv_ck S 10 a0).bind fun u7_ =>
    (fnX12_isWho n S a0 x2).bind fun x10_ =>
    if x10_ = 0 then (
      some (-1 : Int32))
    else (
      cX12_changed_23 n S n a0 x1 x2 (-1 : Int32) (0 : Int32)))
set_option maxRecDepth 20000 in
set_option maxHeartbeats 4000000 in
theorem eX12_changed_in (n : Nat) (S : rvS) (a0 : Nat) (x1 : Int32) (x2 : Int32) (r : Int32) (h : fnX12_changed n S a0 x1 x2 = some r) : rv_Ev mX12_changed 5 0 [(0, .ref a0), (1, .int x1), (2, .int x2)] [] S (some (.int r)) S := by
  unfold fnX12_changed at h
  refine re_aloadn (pc := 0) 0 (by decide +kernel : decode cX12_changed 0 = .ok (.aload_n 0, 1)) rfl ?_
  refine re_iloadn (pc := 1) 1 (by decide +kernel : decode cX12_changed 1 = .ok (.iload_n 1, 1)) rfl ?_
  obtain ⟨u1_, g2_, h⟩ := rv_b_e h
  obtain ⟨x4_, g5_, h⟩ := rv_b_e h
  have m3_ := metX12_isCoin n S a0 x1 _ g5_
  refine re_cV (pc := 2) [.int x1] m3_ (rv_okl.k ⟨rfl, rfl⟩) (rv_up.rf _ _) (by decide) (rv_ck_e g2_) ⟨by decide, rfl⟩ (Nat.le_of_ble_eq_true rfl) lVX12_157 rfl (by decide +kernel : decode cX12_changed 2 = .ok (.invokevirtual 157, 3)) ?_
  rcases rv_if_e h with ⟨g6_, h⟩ | ⟨g6_, h⟩
  · refine re_if_eq_t (pc := 5) 16 (by decide +kernel : decode cX12_changed 5 = .ok (.ifCond .eq 11, 3)) (by decide) g6_ ?_
    refine re_iconst (pc := 16) (-1 : Int32) (by decide +kernel : decode cX12_changed 16 = .ok (.iconst (-1), 1)) (by decide) ?_
    cases h
    exact re_iret (fun ty hty => by cases hty; rfl) (by decide +kernel : decode cX12_changed 17 = .ok (.ireturn, 1))
  · refine re_if_eq_f (pc := 5) 16 (by decide +kernel : decode cX12_changed 5 = .ok (.ifCond .eq 11, 3)) (by decide) g6_ ?_
    refine re_aloadn (pc := 8) 0 (by decide +kernel : decode cX12_changed 8 = .ok (.aload_n 0, 1)) rfl ?_
    refine re_iloadn (pc := 9) 2 (by decide +kernel : decode cX12_changed 9 = .ok (.iload_n 2, 1)) rfl ?_
    obtain ⟨u7_, g8_, h⟩ := rv_b_e h
    obtain ⟨x10_, g11_, h⟩ := rv_b_e h
    have m9_ := metX12_isWho n S a0 x2 _ g11_
    refine re_cV (pc := 10) [.int x2] m9_ (rv_okl.k ⟨rfl, rfl⟩) (rv_up.rf _ _) (by decide) (rv_ck_e g8_) ⟨by decide, rfl⟩ (Nat.le_of_ble_eq_true rfl) lVX12_104 rfl (by decide +kernel : decode cX12_changed 10 = .ok (.invokevirtual 104, 3)) ?_
    rcases rv_if_e h with ⟨g12_, h⟩ | ⟨g12_, h⟩
    · refine re_if_ne_f (pc := 13) 18 (by decide +kernel : decode cX12_changed 13 = .ok (.ifCond .ne 5, 3)) (by decide) g12_ ?_
      refine re_iconst (pc := 16) (-1 : Int32) (by decide +kernel : decode cX12_changed 16 = .ok (.iconst (-1), 1)) (by decide) ?_
      cases h
      exact re_iret (fun ty hty => by cases hty; rfl) (by decide +kernel : decode cX12_changed 17 = .ok (.ireturn, 1))
    · refine re_if_ne_t (pc := 13) 18 (by decide +kernel : decode cX12_changed 13 = .ok (.ifCond .ne 5, 3)) (by decide) g12_ ?_
      refine re_iconst (pc := 18) (-1 : Int32) (by decide +kernel : decode cX12_changed 18 = .ok (.iconst (-1), 1)) (by decide) ?_
      refine re_istoren (pc := 19) (lv1 := [(3, .int (-1 : Int32)), (0, .ref a0), (1, .int x1), (2, .int x2)]) (by decide +kernel : decode cX12_changed 19 = .ok (.istore_n 3, 1)) rfl (by decide) rfl ?_
      refine re_iconst (pc := 20) (0 : Int32) (by decide +kernel : decode cX12_changed 20 = .ok (.iconst 0, 1)) (by decide) ?_
      refine re_istore (pc := 21) (lv1 := [(4, .int (0 : Int32)), (3, .int (-1 : Int32)), (0, .ref a0), (1, .int x1), (2, .int x2)]) (by decide +kernel : decode cX12_changed 21 = .ok (.istore 4, 2)) (by decide) rfl ?_
      refine re_sub [2, 3, 4, 1, 0] (lv1 := [(0, .ref a0), (1, .int x1), (2, .int x2), (3, .int (-1 : Int32)), (4, .int (0 : Int32))]) rfl ?_
      exact eX12_changed_23 n S n a0 x1 x2 (-1 : Int32) (0 : Int32) _ h
theorem metX12_changed (n : Nat) (S : rvS) (a0 : Nat) (x1 : Int32) (x2 : Int32) (r : Int32) (h : fnX12_changed n S a0 x1 x2 = some r) : rv_Met yX12_changed mX12_changed 5 [.ref a0, .int x1, .int x2] S (some (.int r)) S := rv_Met.of ⟨by decide +kernel, rfl, (fun z => by first | rfl | cases z), rfl⟩ (Nat.le_of_ble_eq_true rfl) rfl (eX12_changed_in n S a0 x1 x2 r h)
noncomputable def fnX12_steal (n : Nat) (S : rvS) (a0 : Nat) (x1 : Int32) (x2 : Int32) : Option (Int32 × rvS) :=
  (rv_ck S 10 a0).bind fun u1_ =>
  (fnX12_isWho n S a0 x1).bind fun x4_ =>
  if x4_ = 0 then (
    some ((0 : Int32), S))
  else (
    (rv_ck S 10 a0).bind fun u7_ =>
    (fnX12_isCoin n S a0 x2).bind fun x10_ =>
    if x10_ = 0 then (
      some ((0 : Int32), S))
    else (
      (rv_gR S 10 a0 1).bind fun a13_ =>
      (rv_gR S 8 a13_ 0).bind fun a15_ =>
      (rv_ck S 0 a15_).bind fun u17_ =>
      (fnX1_isDead n S a15_ x1).bind fun x20_ =>
      if x20_ = 0 then (
        (rv_gR S 10 a0 1).bind fun a23_ =>
        (rv_gR S 8 a23_ 1).bind fun a25_ =>
        (rv_gR S 5 a25_ 3).bind fun a27_ =>
        (rv_aI S 0 a27_ x2).bind fun x29_ =>
        if x29_ = x1 then (
          some ((0 : Int32), S))
        else (
          (rv_gR S 10 a0 1).bind fun a32_ =>
          (rv_gR S 8 a32_ 1).bind fun a34_ =>
          (rv_gR S 5 a34_ 3).bind fun a36_ =>
          (rv_uI S a36_ x2 x1).bind fun S38_ =>
          some ((1 : Int32), S38_)))
      else (
        some ((0 : Int32), S))))
set_option maxRecDepth 20000 in
set_option maxHeartbeats 4000000 in
theorem eX12_steal_in (n : Nat) (S : rvS) (a0 : Nat) (x1 : Int32) (x2 : Int32) (r : Int32) (S' : rvS) (h : fnX12_steal n S a0 x1 x2 = some (r, S')) : rv_Ev mX12_steal 2 0 [(0, .ref a0), (1, .int x1), (2, .int x2)] [] S (some (.int r)) S' := by
  unfold fnX12_steal at h
  refine re_aloadn (pc := 0) 0 (by decide +kernel : decode cX12_steal 0 = .ok (.aload_n 0, 1)) rfl ?_
  refine re_iloadn (pc := 1) 1 (by decide +kernel : decode cX12_steal 1 = .ok (.iload_n 1, 1)) rfl ?_
  obtain ⟨u1_, g2_, h⟩ := rv_b_e h
  obtain ⟨x4_, g5_, h⟩ := rv_b_e h
  have m3_ := metX12_isWho n S a0 x1 _ g5_
  refine re_cV (pc := 2) [.int x1] m3_ (rv_okl.k ⟨rfl, rfl⟩) (rv_up.rf _ _) (by decide) (rv_ck_e g2_) ⟨by decide, rfl⟩ (Nat.le_of_ble_eq_true rfl) lVX12_104 rfl (by decide +kernel : decode cX12_steal 2 = .ok (.invokevirtual 104, 3)) ?_
  rcases rv_if_e h with ⟨g6_, h⟩ | ⟨g6_, h⟩
  · refine re_if_eq_t (pc := 5) 46 (by decide +kernel : decode cX12_steal 5 = .ok (.ifCond .eq 41, 3)) (by decide) g6_ ?_
    refine re_iconst (pc := 46) (0 : Int32) (by decide +kernel : decode cX12_steal 46 = .ok (.iconst 0, 1)) (by decide) ?_
    cases h
    exact re_iret (fun ty hty => by cases hty; rfl) (by decide +kernel : decode cX12_steal 47 = .ok (.ireturn, 1))
  · refine re_if_eq_f (pc := 5) 46 (by decide +kernel : decode cX12_steal 5 = .ok (.ifCond .eq 41, 3)) (by decide) g6_ ?_
    refine re_aloadn (pc := 8) 0 (by decide +kernel : decode cX12_steal 8 = .ok (.aload_n 0, 1)) rfl ?_
    refine re_iloadn (pc := 9) 2 (by decide +kernel : decode cX12_steal 9 = .ok (.iload_n 2, 1)) rfl ?_
    obtain ⟨u7_, g8_, h⟩ := rv_b_e h
    obtain ⟨x10_, g11_, h⟩ := rv_b_e h
    have m9_ := metX12_isCoin n S a0 x2 _ g11_
    refine re_cV (pc := 10) [.int x2] m9_ (rv_okl.k ⟨rfl, rfl⟩) (rv_up.rf _ _) (by decide) (rv_ck_e g8_) ⟨by decide, rfl⟩ (Nat.le_of_ble_eq_true rfl) lVX12_157 rfl (by decide +kernel : decode cX12_steal 10 = .ok (.invokevirtual 157, 3)) ?_
    rcases rv_if_e h with ⟨g12_, h⟩ | ⟨g12_, h⟩
    · refine re_if_eq_t (pc := 13) 46 (by decide +kernel : decode cX12_steal 13 = .ok (.ifCond .eq 33, 3)) (by decide) g12_ ?_
      refine re_iconst (pc := 46) (0 : Int32) (by decide +kernel : decode cX12_steal 46 = .ok (.iconst 0, 1)) (by decide) ?_
      cases h
      exact re_iret (fun ty hty => by cases hty; rfl) (by decide +kernel : decode cX12_steal 47 = .ok (.ireturn, 1))
    · refine re_if_eq_f (pc := 13) 46 (by decide +kernel : decode cX12_steal 13 = .ok (.ifCond .eq 33, 3)) (by decide) g12_ ?_
      refine re_aloadn (pc := 16) 0 (by decide +kernel : decode cX12_steal 16 = .ok (.aload_n 0, 1)) rfl ?_
      obtain ⟨a13_, g14_, h⟩ := rv_b_e h
      refine re_gR (pc := 17) g14_ lfX12_19 rfl (by decide +kernel : decode cX12_steal 17 = .ok (.getfield 19, 3)) ?_
      obtain ⟨a15_, g16_, h⟩ := rv_b_e h
      refine re_gR (pc := 20) g16_ lfX12_115 rfl (by decide +kernel : decode cX12_steal 20 = .ok (.getfield 115, 3)) ?_
      refine re_iloadn (pc := 23) 1 (by decide +kernel : decode cX12_steal 23 = .ok (.iload_n 1, 1)) rfl ?_
      obtain ⟨u17_, g18_, h⟩ := rv_b_e h
      obtain ⟨x20_, g21_, h⟩ := rv_b_e h
      have m19_ := metX1_isDead n S a15_ x1 _ g21_
      refine re_cV (pc := 24) [.int x1] m19_ (rv_okl.k ⟨rfl, rfl⟩) (rv_up.rf _ _) (by decide) (rv_ck_e g18_) ⟨by decide, rfl⟩ (Nat.le_of_ble_eq_true rfl) lVX12_132 rfl (by decide +kernel : decode cX12_steal 24 = .ok (.invokevirtual 132, 3)) ?_
      rcases rv_if_e h with ⟨g22_, h⟩ | ⟨g22_, h⟩
      · refine re_if_ne_f (pc := 27) 46 (by decide +kernel : decode cX12_steal 27 = .ok (.ifCond .ne 19, 3)) (by decide) g22_ ?_
        refine re_aloadn (pc := 30) 0 (by decide +kernel : decode cX12_steal 30 = .ok (.aload_n 0, 1)) rfl ?_
        obtain ⟨a23_, g24_, h⟩ := rv_b_e h
        refine re_gR (pc := 31) g24_ lfX12_19 rfl (by decide +kernel : decode cX12_steal 31 = .ok (.getfield 19, 3)) ?_
        obtain ⟨a25_, g26_, h⟩ := rv_b_e h
        refine re_gR (pc := 34) g26_ lfX12_138 rfl (by decide +kernel : decode cX12_steal 34 = .ok (.getfield 138, 3)) ?_
        obtain ⟨a27_, g28_, h⟩ := rv_b_e h
        refine re_gR (pc := 37) g28_ lfX12_165 rfl (by decide +kernel : decode cX12_steal 37 = .ok (.getfield 165, 3)) ?_
        refine re_iloadn (pc := 40) 2 (by decide +kernel : decode cX12_steal 40 = .ok (.iload_n 2, 1)) rfl ?_
        obtain ⟨x29_, g30_, h⟩ := rv_b_e h
        refine re_aI (pc := 41) g30_ (by decide +kernel : decode cX12_steal 41 = .ok (.iaload, 1)) ?_
        refine re_iloadn (pc := 42) 1 (by decide +kernel : decode cX12_steal 42 = .ok (.iload_n 1, 1)) rfl ?_
        rcases rv_if_e h with ⟨g31_, h⟩ | ⟨g31_, h⟩
        · refine re_icmp_ne_f (pc := 43) 48 (by decide +kernel : decode cX12_steal 43 = .ok (.if_icmp .ne 5, 3)) (by decide) g31_ ?_
          refine re_iconst (pc := 46) (0 : Int32) (by decide +kernel : decode cX12_steal 46 = .ok (.iconst 0, 1)) (by decide) ?_
          cases h
          exact re_iret (fun ty hty => by cases hty; rfl) (by decide +kernel : decode cX12_steal 47 = .ok (.ireturn, 1))
        · refine re_icmp_ne_t (pc := 43) 48 (by decide +kernel : decode cX12_steal 43 = .ok (.if_icmp .ne 5, 3)) (by decide) g31_ ?_
          refine re_aloadn (pc := 48) 0 (by decide +kernel : decode cX12_steal 48 = .ok (.aload_n 0, 1)) rfl ?_
          obtain ⟨a32_, g33_, h⟩ := rv_b_e h
          refine re_gR (pc := 49) g33_ lfX12_19 rfl (by decide +kernel : decode cX12_steal 49 = .ok (.getfield 19, 3)) ?_
          obtain ⟨a34_, g35_, h⟩ := rv_b_e h
          refine re_gR (pc := 52) g35_ lfX12_138 rfl (by decide +kernel : decode cX12_steal 52 = .ok (.getfield 138, 3)) ?_
          obtain ⟨a36_, g37_, h⟩ := rv_b_e h
          refine re_gR (pc := 55) g37_ lfX12_165 rfl (by decide +kernel : decode cX12_steal 55 = .ok (.getfield 165, 3)) ?_
          refine re_iloadn (pc := 58) 2 (by decide +kernel : decode cX12_steal 58 = .ok (.iload_n 2, 1)) rfl ?_
          refine re_iloadn (pc := 59) 1 (by decide +kernel : decode cX12_steal 59 = .ok (.iload_n 1, 1)) rfl ?_
          obtain ⟨S38_, g39_, h⟩ := rv_b_e h
          refine re_uI (pc := 60) g39_ (by decide +kernel : decode cX12_steal 60 = .ok (.iastore, 1)) ?_
          refine re_iconst (pc := 61) (1 : Int32) (by decide +kernel : decode cX12_steal 61 = .ok (.iconst 1, 1)) (by decide) ?_
          cases h
          exact re_iret (fun ty hty => by cases hty; rfl) (by decide +kernel : decode cX12_steal 62 = .ok (.ireturn, 1))
      · refine re_if_ne_t (pc := 27) 46 (by decide +kernel : decode cX12_steal 27 = .ok (.ifCond .ne 19, 3)) (by decide) g22_ ?_
        refine re_iconst (pc := 46) (0 : Int32) (by decide +kernel : decode cX12_steal 46 = .ok (.iconst 0, 1)) (by decide) ?_
        cases h
        exact re_iret (fun ty hty => by cases hty; rfl) (by decide +kernel : decode cX12_steal 47 = .ok (.ireturn, 1))
theorem metX12_steal (n : Nat) (S : rvS) (a0 : Nat) (x1 : Int32) (x2 : Int32) (r : Int32) (S' : rvS) (h : fnX12_steal n S a0 x1 x2 = some (r, S')) : rv_Met yX12_steal mX12_steal 2 [.ref a0, .int x1, .int x2] S (some (.int r)) S' := rv_Met.of ⟨by decide +kernel, rfl, (fun z => by first | rfl | cases z), rfl⟩ (Nat.le_of_ble_eq_true rfl) rfl (eX12_steal_in n S a0 x1 x2 r S' h)
noncomputable def fnX12_wed (n : Nat) (S : rvS) (a0 : Nat) (x1 : Int32) (x2 : Int32) : Option (Int32 × rvS) :=
  (rv_ck S 10 a0).bind fun u1_ =>
  (fnX12_isWho n S a0 x1).bind fun x4_ =>
  if x4_ = 0 then (
    some ((0 : Int32), S))
  else (
    (rv_ck S 10 a0).bind fun u7_ =>
    (fnX12_isWho n S a0 x2).bind fun x10_ =>
    if x10_ = 0 then (
      some ((0 : Int32), S))
    else (
      if x1 = x2 then (
        some ((0 : Int32), S))
      else (
        (rv_gR S 10 a0 1).bind fun a14_ =>
        (rv_gR S 8 a14_ 0).bind fun a16_ =>
        (rv_ck S 0 a16_).bind fun u18_ =>
        (fnX1_isFree n S a16_ x1).bind fun x21_ =>
        if x21_ = 0 then (
          some ((0 : Int32), S))
        else (
          (rv_gR S 10 a0 1).bind fun a24_ =>
          (rv_gR S 8 a24_ 0).bind fun a26_ =>
          (rv_ck S 0 a26_).bind fun u28_ =>
          (fnX1_isFree n S a26_ x2).bind fun x31_ =>
          if x31_ = 0 then (
            some ((0 : Int32), S))
          else (
            (rv_gR S 10 a0 1).bind fun a34_ =>
            (rv_gR S 8 a34_ 0).bind fun a36_ =>
            (rv_ck S 0 a36_).bind fun u38_ =>
            (fnX1_marry n S a36_ x1 x2).bind fun S41_ =>
            some ((1 : Int32), S41_))))))
set_option maxRecDepth 20000 in
set_option maxHeartbeats 4000000 in
theorem eX12_wed_in (n : Nat) (S : rvS) (a0 : Nat) (x1 : Int32) (x2 : Int32) (r : Int32) (S' : rvS) (h : fnX12_wed n S a0 x1 x2 = some (r, S')) : rv_Ev mX12_wed 2 0 [(0, .ref a0), (1, .int x1), (2, .int x2)] [] S (some (.int r)) S' := by
  unfold fnX12_wed at h
  refine re_aloadn (pc := 0) 0 (by decide +kernel : decode cX12_wed 0 = .ok (.aload_n 0, 1)) rfl ?_
  refine re_iloadn (pc := 1) 1 (by decide +kernel : decode cX12_wed 1 = .ok (.iload_n 1, 1)) rfl ?_
  obtain ⟨u1_, g2_, h⟩ := rv_b_e h
  obtain ⟨x4_, g5_, h⟩ := rv_b_e h
  have m3_ := metX12_isWho n S a0 x1 _ g5_
  refine re_cV (pc := 2) [.int x1] m3_ (rv_okl.k ⟨rfl, rfl⟩) (rv_up.rf _ _) (by decide) (rv_ck_e g2_) ⟨by decide, rfl⟩ (Nat.le_of_ble_eq_true rfl) lVX12_104 rfl (by decide +kernel : decode cX12_wed 2 = .ok (.invokevirtual 104, 3)) ?_
  rcases rv_if_e h with ⟨g6_, h⟩ | ⟨g6_, h⟩
  · refine re_if_eq_t (pc := 5) 49 (by decide +kernel : decode cX12_wed 5 = .ok (.ifCond .eq 44, 3)) (by decide) g6_ ?_
    refine re_iconst (pc := 49) (0 : Int32) (by decide +kernel : decode cX12_wed 49 = .ok (.iconst 0, 1)) (by decide) ?_
    cases h
    exact re_iret (fun ty hty => by cases hty; rfl) (by decide +kernel : decode cX12_wed 50 = .ok (.ireturn, 1))
  · refine re_if_eq_f (pc := 5) 49 (by decide +kernel : decode cX12_wed 5 = .ok (.ifCond .eq 44, 3)) (by decide) g6_ ?_
    refine re_aloadn (pc := 8) 0 (by decide +kernel : decode cX12_wed 8 = .ok (.aload_n 0, 1)) rfl ?_
    refine re_iloadn (pc := 9) 2 (by decide +kernel : decode cX12_wed 9 = .ok (.iload_n 2, 1)) rfl ?_
    obtain ⟨u7_, g8_, h⟩ := rv_b_e h
    obtain ⟨x10_, g11_, h⟩ := rv_b_e h
    have m9_ := metX12_isWho n S a0 x2 _ g11_
    refine re_cV (pc := 10) [.int x2] m9_ (rv_okl.k ⟨rfl, rfl⟩) (rv_up.rf _ _) (by decide) (rv_ck_e g8_) ⟨by decide, rfl⟩ (Nat.le_of_ble_eq_true rfl) lVX12_104 rfl (by decide +kernel : decode cX12_wed 10 = .ok (.invokevirtual 104, 3)) ?_
    rcases rv_if_e h with ⟨g12_, h⟩ | ⟨g12_, h⟩
    · refine re_if_eq_t (pc := 13) 49 (by decide +kernel : decode cX12_wed 13 = .ok (.ifCond .eq 36, 3)) (by decide) g12_ ?_
      refine re_iconst (pc := 49) (0 : Int32) (by decide +kernel : decode cX12_wed 49 = .ok (.iconst 0, 1)) (by decide) ?_
      cases h
      exact re_iret (fun ty hty => by cases hty; rfl) (by decide +kernel : decode cX12_wed 50 = .ok (.ireturn, 1))
    · refine re_if_eq_f (pc := 13) 49 (by decide +kernel : decode cX12_wed 13 = .ok (.ifCond .eq 36, 3)) (by decide) g12_ ?_
      refine re_iloadn (pc := 16) 1 (by decide +kernel : decode cX12_wed 16 = .ok (.iload_n 1, 1)) rfl ?_
      refine re_iloadn (pc := 17) 2 (by decide +kernel : decode cX12_wed 17 = .ok (.iload_n 2, 1)) rfl ?_
      rcases rv_if_e h with ⟨g13_, h⟩ | ⟨g13_, h⟩
      · refine re_icmp_eq_t (pc := 18) 49 (by decide +kernel : decode cX12_wed 18 = .ok (.if_icmp .eq 31, 3)) (by decide) g13_ ?_
        refine re_iconst (pc := 49) (0 : Int32) (by decide +kernel : decode cX12_wed 49 = .ok (.iconst 0, 1)) (by decide) ?_
        cases h
        exact re_iret (fun ty hty => by cases hty; rfl) (by decide +kernel : decode cX12_wed 50 = .ok (.ireturn, 1))
      · refine re_icmp_eq_f (pc := 18) 49 (by decide +kernel : decode cX12_wed 18 = .ok (.if_icmp .eq 31, 3)) (by decide) g13_ ?_
        refine re_aloadn (pc := 21) 0 (by decide +kernel : decode cX12_wed 21 = .ok (.aload_n 0, 1)) rfl ?_
        obtain ⟨a14_, g15_, h⟩ := rv_b_e h
        refine re_gR (pc := 22) g15_ lfX12_19 rfl (by decide +kernel : decode cX12_wed 22 = .ok (.getfield 19, 3)) ?_
        obtain ⟨a16_, g17_, h⟩ := rv_b_e h
        refine re_gR (pc := 25) g17_ lfX12_115 rfl (by decide +kernel : decode cX12_wed 25 = .ok (.getfield 115, 3)) ?_
        refine re_iloadn (pc := 28) 1 (by decide +kernel : decode cX12_wed 28 = .ok (.iload_n 1, 1)) rfl ?_
        obtain ⟨u18_, g19_, h⟩ := rv_b_e h
        obtain ⟨x21_, g22_, h⟩ := rv_b_e h
        have m20_ := metX1_isFree n S a16_ x1 _ g22_
        refine re_cV (pc := 29) [.int x1] m20_ (rv_okl.k ⟨rfl, rfl⟩) (rv_up.rf _ _) (by decide) (rv_ck_e g19_) ⟨by decide, rfl⟩ (Nat.le_of_ble_eq_true rfl) lVX12_255 rfl (by decide +kernel : decode cX12_wed 29 = .ok (.invokevirtual 255, 3)) ?_
        rcases rv_if_e h with ⟨g23_, h⟩ | ⟨g23_, h⟩
        · refine re_if_eq_t (pc := 32) 49 (by decide +kernel : decode cX12_wed 32 = .ok (.ifCond .eq 17, 3)) (by decide) g23_ ?_
          refine re_iconst (pc := 49) (0 : Int32) (by decide +kernel : decode cX12_wed 49 = .ok (.iconst 0, 1)) (by decide) ?_
          cases h
          exact re_iret (fun ty hty => by cases hty; rfl) (by decide +kernel : decode cX12_wed 50 = .ok (.ireturn, 1))
        · refine re_if_eq_f (pc := 32) 49 (by decide +kernel : decode cX12_wed 32 = .ok (.ifCond .eq 17, 3)) (by decide) g23_ ?_
          refine re_aloadn (pc := 35) 0 (by decide +kernel : decode cX12_wed 35 = .ok (.aload_n 0, 1)) rfl ?_
          obtain ⟨a24_, g25_, h⟩ := rv_b_e h
          refine re_gR (pc := 36) g25_ lfX12_19 rfl (by decide +kernel : decode cX12_wed 36 = .ok (.getfield 19, 3)) ?_
          obtain ⟨a26_, g27_, h⟩ := rv_b_e h
          refine re_gR (pc := 39) g27_ lfX12_115 rfl (by decide +kernel : decode cX12_wed 39 = .ok (.getfield 115, 3)) ?_
          refine re_iloadn (pc := 42) 2 (by decide +kernel : decode cX12_wed 42 = .ok (.iload_n 2, 1)) rfl ?_
          obtain ⟨u28_, g29_, h⟩ := rv_b_e h
          obtain ⟨x31_, g32_, h⟩ := rv_b_e h
          have m30_ := metX1_isFree n S a26_ x2 _ g32_
          refine re_cV (pc := 43) [.int x2] m30_ (rv_okl.k ⟨rfl, rfl⟩) (rv_up.rf _ _) (by decide) (rv_ck_e g29_) ⟨by decide, rfl⟩ (Nat.le_of_ble_eq_true rfl) lVX12_255 rfl (by decide +kernel : decode cX12_wed 43 = .ok (.invokevirtual 255, 3)) ?_
          rcases rv_if_e h with ⟨g33_, h⟩ | ⟨g33_, h⟩
          · refine re_if_ne_f (pc := 46) 51 (by decide +kernel : decode cX12_wed 46 = .ok (.ifCond .ne 5, 3)) (by decide) g33_ ?_
            refine re_iconst (pc := 49) (0 : Int32) (by decide +kernel : decode cX12_wed 49 = .ok (.iconst 0, 1)) (by decide) ?_
            cases h
            exact re_iret (fun ty hty => by cases hty; rfl) (by decide +kernel : decode cX12_wed 50 = .ok (.ireturn, 1))
          · refine re_if_ne_t (pc := 46) 51 (by decide +kernel : decode cX12_wed 46 = .ok (.ifCond .ne 5, 3)) (by decide) g33_ ?_
            refine re_aloadn (pc := 51) 0 (by decide +kernel : decode cX12_wed 51 = .ok (.aload_n 0, 1)) rfl ?_
            obtain ⟨a34_, g35_, h⟩ := rv_b_e h
            refine re_gR (pc := 52) g35_ lfX12_19 rfl (by decide +kernel : decode cX12_wed 52 = .ok (.getfield 19, 3)) ?_
            obtain ⟨a36_, g37_, h⟩ := rv_b_e h
            refine re_gR (pc := 55) g37_ lfX12_115 rfl (by decide +kernel : decode cX12_wed 55 = .ok (.getfield 115, 3)) ?_
            refine re_iloadn (pc := 58) 1 (by decide +kernel : decode cX12_wed 58 = .ok (.iload_n 1, 1)) rfl ?_
            refine re_iloadn (pc := 59) 2 (by decide +kernel : decode cX12_wed 59 = .ok (.iload_n 2, 1)) rfl ?_
            obtain ⟨u38_, g39_, h⟩ := rv_b_e h
            obtain ⟨S41_, g42_, h⟩ := rv_b_e h
            have m40_ := metX1_marry n S a36_ x1 x2 _ g42_
            have z43_ : rv_same S S41_ := m40_.sh rfl
            refine re_cV (pc := 60) [.int x1, .int x2] m40_ (rv_okl.k z43_) (rv_up.sh z43_) (by decide) (rv_ck_e g39_) ⟨by decide, rfl⟩ (Nat.le_of_ble_eq_true rfl) lVX12_258 rfl (by decide +kernel : decode cX12_wed 60 = .ok (.invokevirtual 258, 3)) ?_
            refine re_iconst (pc := 63) (1 : Int32) (by decide +kernel : decode cX12_wed 63 = .ok (.iconst 1, 1)) (by decide) ?_
            cases h
            exact re_iret (fun ty hty => by cases hty; rfl) (by decide +kernel : decode cX12_wed 64 = .ok (.ireturn, 1))
theorem metX12_wed (n : Nat) (S : rvS) (a0 : Nat) (x1 : Int32) (x2 : Int32) (r : Int32) (S' : rvS) (h : fnX12_wed n S a0 x1 x2 = some (r, S')) : rv_Met yX12_wed mX12_wed 2 [.ref a0, .int x1, .int x2] S (some (.int r)) S' := rv_Met.of ⟨by decide +kernel, rfl, (fun z => by first | rfl | cases z), rfl⟩ (Nat.le_of_ble_eq_true rfl) rfl (eX12_wed_in n S a0 x1 x2 r S' h)
noncomputable def fnX12_born (n : Nat) (S : rvS) (a0 : Nat) (x1 : Int32) : Option (Int32 × rvS) :=
  (fnX1_isVillage n S x1).bind fun x2_ =>
  if x2_ = 0 then (
    some ((-1 : Int32), S))
  else (
    (rv_gR S 10 a0 1).bind fun a5_ =>
    (rv_gR S 8 a5_ 0).bind fun a7_ =>
    (rv_gI S 0 a7_ 0).bind fun x9_ =>
    if x9_ < (24 : Int32) then (
      (rv_gR S 10 a0 1).bind fun a12_ =>
      (rv_gR S 8 a12_ 0).bind fun a14_ =>
      (rv_ck S 0 a14_).bind fun u16_ =>
      rv_bp (fnX1_add n S a14_ (0 : Int64) x1) fun x19_ S20_ =>
      some (x19_, S20_))
    else (
      some ((-1 : Int32), S)))
set_option maxRecDepth 20000 in
set_option maxHeartbeats 4000000 in
theorem eX12_born_in (n : Nat) (S : rvS) (a0 : Nat) (x1 : Int32) (r : Int32) (S' : rvS) (h : fnX12_born n S a0 x1 = some (r, S')) : rv_Ev mX12_born 4 0 [(0, .ref a0), (1, .int x1)] [] S (some (.int r)) S' := by
  unfold fnX12_born at h
  refine re_iloadn (pc := 0) 1 (by decide +kernel : decode cX12_born 0 = .ok (.iload_n 1, 1)) rfl ?_
  obtain ⟨x2_, g3_, h⟩ := rv_b_e h
  have m1_ := metX1_isVillage n S x1 _ g3_
  refine re_cS (pc := 1) [.int x1] m1_ (rv_okl.k ⟨rfl, rfl⟩) (rv_up.rf _ _) (by decide) (Nat.le_of_ble_eq_true rfl) lSX12_185 rfl (by decide +kernel : decode cX12_born 1 = .ok (.invokestatic 185, 3)) ?_
  rcases rv_if_e h with ⟨g4_, h⟩ | ⟨g4_, h⟩
  · refine re_if_eq_t (pc := 4) 22 (by decide +kernel : decode cX12_born 4 = .ok (.ifCond .eq 18, 3)) (by decide) g4_ ?_
    refine re_iconst (pc := 22) (-1 : Int32) (by decide +kernel : decode cX12_born 22 = .ok (.iconst (-1), 1)) (by decide) ?_
    cases h
    exact re_iret (fun ty hty => by cases hty; rfl) (by decide +kernel : decode cX12_born 23 = .ok (.ireturn, 1))
  · refine re_if_eq_f (pc := 4) 22 (by decide +kernel : decode cX12_born 4 = .ok (.ifCond .eq 18, 3)) (by decide) g4_ ?_
    refine re_aloadn (pc := 7) 0 (by decide +kernel : decode cX12_born 7 = .ok (.aload_n 0, 1)) rfl ?_
    obtain ⟨a5_, g6_, h⟩ := rv_b_e h
    refine re_gR (pc := 8) g6_ lfX12_19 rfl (by decide +kernel : decode cX12_born 8 = .ok (.getfield 19, 3)) ?_
    obtain ⟨a7_, g8_, h⟩ := rv_b_e h
    refine re_gR (pc := 11) g8_ lfX12_115 rfl (by decide +kernel : decode cX12_born 11 = .ok (.getfield 115, 3)) ?_
    obtain ⟨x9_, g10_, h⟩ := rv_b_e h
    refine re_gI (pc := 14) g10_ lfX12_234 rfl (by decide +kernel : decode cX12_born 14 = .ok (.getfield 234, 3)) ?_
    refine re_bipush (pc := 17) (24 : Int32) (by decide +kernel : decode cX12_born 17 = .ok (.bipush 24, 2)) (by decide) ?_
    rcases rv_if_e h with ⟨g11_, h⟩ | ⟨g11_, h⟩
    · refine re_icmp_lt_t (pc := 19) 24 (by decide +kernel : decode cX12_born 19 = .ok (.if_icmp .lt 5, 3)) (by decide) g11_ ?_
      refine re_aloadn (pc := 24) 0 (by decide +kernel : decode cX12_born 24 = .ok (.aload_n 0, 1)) rfl ?_
      obtain ⟨a12_, g13_, h⟩ := rv_b_e h
      refine re_gR (pc := 25) g13_ lfX12_19 rfl (by decide +kernel : decode cX12_born 25 = .ok (.getfield 19, 3)) ?_
      obtain ⟨a14_, g15_, h⟩ := rv_b_e h
      refine re_gR (pc := 28) g15_ lfX12_115 rfl (by decide +kernel : decode cX12_born 28 = .ok (.getfield 115, 3)) ?_
      refine re_lconst (pc := 31) (0 : Int64) (by decide +kernel : decode cX12_born 31 = .ok (.lconst 0, 1)) (by decide) ?_
      refine re_iloadn (pc := 32) 1 (by decide +kernel : decode cX12_born 32 = .ok (.iload_n 1, 1)) rfl ?_
      obtain ⟨u16_, g17_, h⟩ := rv_b_e h
      obtain ⟨x19_, S20_, g21_, h⟩ := rv_bp_e h
      have m18_ := metX1_add n S a14_ (0 : Int64) x1 _ _ g21_
      have z22_ : rv_same S S20_ := m18_.sh rfl
      refine re_cV (pc := 33) [.long (0 : Int64), .int x1] m18_ (rv_okl.k z22_) (rv_up.sh z22_) (by decide) (rv_ck_e g17_) ⟨by decide, rfl⟩ (Nat.le_of_ble_eq_true rfl) lVX12_261 rfl (by decide +kernel : decode cX12_born 33 = .ok (.invokevirtual 261, 3)) ?_
      cases h
      exact re_iret (fun ty hty => by cases hty; rfl) (by decide +kernel : decode cX12_born 36 = .ok (.ireturn, 1))
    · refine re_icmp_lt_f (pc := 19) 24 (by decide +kernel : decode cX12_born 19 = .ok (.if_icmp .lt 5, 3)) (by decide) g11_ ?_
      refine re_iconst (pc := 22) (-1 : Int32) (by decide +kernel : decode cX12_born 22 = .ok (.iconst (-1), 1)) (by decide) ?_
      cases h
      exact re_iret (fun ty hty => by cases hty; rfl) (by decide +kernel : decode cX12_born 23 = .ok (.ireturn, 1))
theorem metX12_born (n : Nat) (S : rvS) (a0 : Nat) (x1 : Int32) (r : Int32) (S' : rvS) (h : fnX12_born n S a0 x1 = some (r, S')) : rv_Met yX12_born mX12_born 4 [.ref a0, .int x1] S (some (.int r)) S' := rv_Met.of ⟨by decide +kernel, rfl, (fun z => by first | rfl | cases z), rfl⟩ (Nat.le_of_ble_eq_true rfl) rfl (eX12_born_in n S a0 x1 r S' h)
noncomputable def fnX12_dies (n : Nat) (S : rvS) (a0 : Nat) (x1 : Int32) (x2 : Int32) : Option (Int32 × rvS) :=
  (rv_ck S 10 a0).bind fun u1_ =>
  (fnX12_isWho n S a0 x1).bind fun x4_ =>
  if x4_ = 0 then (
    some ((-1 : Int32), S))
  else (
    (rv_ck S 10 a0).bind fun u7_ =>
    (fnX12_isWho n S a0 x2).bind fun x10_ =>
    if x10_ = 0 then (
      some ((-1 : Int32), S))
    else (
      if x1 = x2 then (
        some ((-1 : Int32), S))
      else (
        (rv_gR S 10 a0 1).bind fun a14_ =>
        (rv_gR S 8 a14_ 0).bind fun a16_ =>
        (rv_ck S 0 a16_).bind fun u18_ =>
        (fnX1_isDead n S a16_ x1).bind fun x21_ =>
        if x21_ = 0 then (
          (rv_gR S 10 a0 1).bind fun a24_ =>
          (rv_gR S 8 a24_ 0).bind fun a26_ =>
          (rv_ck S 0 a26_).bind fun u28_ =>
          (fnX1_isDead n S a26_ x2).bind fun x31_ =>
          if x31_ = 0 then (
            (rv_gR S 10 a0 1).bind fun a34_ =>
            (rv_ck S 8 a34_).bind fun u36_ =>
            rv_bp (fnX9_bury n S a34_ x1 x2) fun x39_ S40_ =>
            some (x39_, S40_))
          else (
            some ((-1 : Int32), S)))
        else (
          some ((-1 : Int32), S)))))
set_option maxRecDepth 20000 in
set_option maxHeartbeats 4000000 in
theorem eX12_dies_in (n : Nat) (S : rvS) (a0 : Nat) (x1 : Int32) (x2 : Int32) (r : Int32) (S' : rvS) (h : fnX12_dies n S a0 x1 x2 = some (r, S')) : rv_Ev mX12_dies 5 0 [(0, .ref a0), (1, .int x1), (2, .int x2)] [] S (some (.int r)) S' := by
  unfold fnX12_dies at h
  refine re_aloadn (pc := 0) 0 (by decide +kernel : decode cX12_dies 0 = .ok (.aload_n 0, 1)) rfl ?_
  refine re_iloadn (pc := 1) 1 (by decide +kernel : decode cX12_dies 1 = .ok (.iload_n 1, 1)) rfl ?_
  obtain ⟨u1_, g2_, h⟩ := rv_b_e h
  obtain ⟨x4_, g5_, h⟩ := rv_b_e h
  have m3_ := metX12_isWho n S a0 x1 _ g5_
  refine re_cV (pc := 2) [.int x1] m3_ (rv_okl.k ⟨rfl, rfl⟩) (rv_up.rf _ _) (by decide) (rv_ck_e g2_) ⟨by decide, rfl⟩ (Nat.le_of_ble_eq_true rfl) lVX12_104 rfl (by decide +kernel : decode cX12_dies 2 = .ok (.invokevirtual 104, 3)) ?_
  rcases rv_if_e h with ⟨g6_, h⟩ | ⟨g6_, h⟩
  · refine re_if_eq_t (pc := 5) 21 (by decide +kernel : decode cX12_dies 5 = .ok (.ifCond .eq 16, 3)) (by decide) g6_ ?_
    refine re_iconst (pc := 21) (-1 : Int32) (by decide +kernel : decode cX12_dies 21 = .ok (.iconst (-1), 1)) (by decide) ?_
    cases h
    exact re_iret (fun ty hty => by cases hty; rfl) (by decide +kernel : decode cX12_dies 22 = .ok (.ireturn, 1))
  · refine re_if_eq_f (pc := 5) 21 (by decide +kernel : decode cX12_dies 5 = .ok (.ifCond .eq 16, 3)) (by decide) g6_ ?_
    refine re_aloadn (pc := 8) 0 (by decide +kernel : decode cX12_dies 8 = .ok (.aload_n 0, 1)) rfl ?_
    refine re_iloadn (pc := 9) 2 (by decide +kernel : decode cX12_dies 9 = .ok (.iload_n 2, 1)) rfl ?_
    obtain ⟨u7_, g8_, h⟩ := rv_b_e h
    obtain ⟨x10_, g11_, h⟩ := rv_b_e h
    have m9_ := metX12_isWho n S a0 x2 _ g11_
    refine re_cV (pc := 10) [.int x2] m9_ (rv_okl.k ⟨rfl, rfl⟩) (rv_up.rf _ _) (by decide) (rv_ck_e g8_) ⟨by decide, rfl⟩ (Nat.le_of_ble_eq_true rfl) lVX12_104 rfl (by decide +kernel : decode cX12_dies 10 = .ok (.invokevirtual 104, 3)) ?_
    rcases rv_if_e h with ⟨g12_, h⟩ | ⟨g12_, h⟩
    · refine re_if_eq_t (pc := 13) 21 (by decide +kernel : decode cX12_dies 13 = .ok (.ifCond .eq 8, 3)) (by decide) g12_ ?_
      refine re_iconst (pc := 21) (-1 : Int32) (by decide +kernel : decode cX12_dies 21 = .ok (.iconst (-1), 1)) (by decide) ?_
      cases h
      exact re_iret (fun ty hty => by cases hty; rfl) (by decide +kernel : decode cX12_dies 22 = .ok (.ireturn, 1))
    · refine re_if_eq_f (pc := 13) 21 (by decide +kernel : decode cX12_dies 13 = .ok (.ifCond .eq 8, 3)) (by decide) g12_ ?_
      refine re_iloadn (pc := 16) 1 (by decide +kernel : decode cX12_dies 16 = .ok (.iload_n 1, 1)) rfl ?_
      refine re_iloadn (pc := 17) 2 (by decide +kernel : decode cX12_dies 17 = .ok (.iload_n 2, 1)) rfl ?_
      rcases rv_if_e h with ⟨g13_, h⟩ | ⟨g13_, h⟩
      · refine re_icmp_ne_f (pc := 18) 23 (by decide +kernel : decode cX12_dies 18 = .ok (.if_icmp .ne 5, 3)) (by decide) g13_ ?_
        refine re_iconst (pc := 21) (-1 : Int32) (by decide +kernel : decode cX12_dies 21 = .ok (.iconst (-1), 1)) (by decide) ?_
        cases h
        exact re_iret (fun ty hty => by cases hty; rfl) (by decide +kernel : decode cX12_dies 22 = .ok (.ireturn, 1))
      · refine re_icmp_ne_t (pc := 18) 23 (by decide +kernel : decode cX12_dies 18 = .ok (.if_icmp .ne 5, 3)) (by decide) g13_ ?_
        refine re_aloadn (pc := 23) 0 (by decide +kernel : decode cX12_dies 23 = .ok (.aload_n 0, 1)) rfl ?_
        obtain ⟨a14_, g15_, h⟩ := rv_b_e h
        refine re_gR (pc := 24) g15_ lfX12_19 rfl (by decide +kernel : decode cX12_dies 24 = .ok (.getfield 19, 3)) ?_
        obtain ⟨a16_, g17_, h⟩ := rv_b_e h
        refine re_gR (pc := 27) g17_ lfX12_115 rfl (by decide +kernel : decode cX12_dies 27 = .ok (.getfield 115, 3)) ?_
        refine re_iloadn (pc := 30) 1 (by decide +kernel : decode cX12_dies 30 = .ok (.iload_n 1, 1)) rfl ?_
        obtain ⟨u18_, g19_, h⟩ := rv_b_e h
        obtain ⟨x21_, g22_, h⟩ := rv_b_e h
        have m20_ := metX1_isDead n S a16_ x1 _ g22_
        refine re_cV (pc := 31) [.int x1] m20_ (rv_okl.k ⟨rfl, rfl⟩) (rv_up.rf _ _) (by decide) (rv_ck_e g19_) ⟨by decide, rfl⟩ (Nat.le_of_ble_eq_true rfl) lVX12_132 rfl (by decide +kernel : decode cX12_dies 31 = .ok (.invokevirtual 132, 3)) ?_
        rcases rv_if_e h with ⟨g23_, h⟩ | ⟨g23_, h⟩
        · refine re_if_ne_f (pc := 34) 51 (by decide +kernel : decode cX12_dies 34 = .ok (.ifCond .ne 17, 3)) (by decide) g23_ ?_
          refine re_aloadn (pc := 37) 0 (by decide +kernel : decode cX12_dies 37 = .ok (.aload_n 0, 1)) rfl ?_
          obtain ⟨a24_, g25_, h⟩ := rv_b_e h
          refine re_gR (pc := 38) g25_ lfX12_19 rfl (by decide +kernel : decode cX12_dies 38 = .ok (.getfield 19, 3)) ?_
          obtain ⟨a26_, g27_, h⟩ := rv_b_e h
          refine re_gR (pc := 41) g27_ lfX12_115 rfl (by decide +kernel : decode cX12_dies 41 = .ok (.getfield 115, 3)) ?_
          refine re_iloadn (pc := 44) 2 (by decide +kernel : decode cX12_dies 44 = .ok (.iload_n 2, 1)) rfl ?_
          obtain ⟨u28_, g29_, h⟩ := rv_b_e h
          obtain ⟨x31_, g32_, h⟩ := rv_b_e h
          have m30_ := metX1_isDead n S a26_ x2 _ g32_
          refine re_cV (pc := 45) [.int x2] m30_ (rv_okl.k ⟨rfl, rfl⟩) (rv_up.rf _ _) (by decide) (rv_ck_e g29_) ⟨by decide, rfl⟩ (Nat.le_of_ble_eq_true rfl) lVX12_132 rfl (by decide +kernel : decode cX12_dies 45 = .ok (.invokevirtual 132, 3)) ?_
          rcases rv_if_e h with ⟨g33_, h⟩ | ⟨g33_, h⟩
          · refine re_if_eq_t (pc := 48) 53 (by decide +kernel : decode cX12_dies 48 = .ok (.ifCond .eq 5, 3)) (by decide) g33_ ?_
            refine re_aloadn (pc := 53) 0 (by decide +kernel : decode cX12_dies 53 = .ok (.aload_n 0, 1)) rfl ?_
            obtain ⟨a34_, g35_, h⟩ := rv_b_e h
            refine re_gR (pc := 54) g35_ lfX12_19 rfl (by decide +kernel : decode cX12_dies 54 = .ok (.getfield 19, 3)) ?_
            refine re_iloadn (pc := 57) 1 (by decide +kernel : decode cX12_dies 57 = .ok (.iload_n 1, 1)) rfl ?_
            refine re_iloadn (pc := 58) 2 (by decide +kernel : decode cX12_dies 58 = .ok (.iload_n 2, 1)) rfl ?_
            obtain ⟨u36_, g37_, h⟩ := rv_b_e h
            obtain ⟨x39_, S40_, g41_, h⟩ := rv_bp_e h
            have m38_ := metX9_bury n S a34_ x1 x2 _ _ g41_
            have z42_ : rv_same S S40_ := m38_.sh rfl
            refine re_cV (pc := 59) [.int x1, .int x2] m38_ (rv_okl.k z42_) (rv_up.sh z42_) (by decide) (rv_ck_e g37_) ⟨by decide, rfl⟩ (Nat.le_of_ble_eq_true rfl) lVX12_264 rfl (by decide +kernel : decode cX12_dies 59 = .ok (.invokevirtual 264, 3)) ?_
            cases h
            exact re_iret (fun ty hty => by cases hty; rfl) (by decide +kernel : decode cX12_dies 62 = .ok (.ireturn, 1))
          · refine re_if_eq_f (pc := 48) 53 (by decide +kernel : decode cX12_dies 48 = .ok (.ifCond .eq 5, 3)) (by decide) g33_ ?_
            refine re_iconst (pc := 51) (-1 : Int32) (by decide +kernel : decode cX12_dies 51 = .ok (.iconst (-1), 1)) (by decide) ?_
            cases h
            exact re_iret (fun ty hty => by cases hty; rfl) (by decide +kernel : decode cX12_dies 52 = .ok (.ireturn, 1))
        · refine re_if_ne_t (pc := 34) 51 (by decide +kernel : decode cX12_dies 34 = .ok (.ifCond .ne 17, 3)) (by decide) g23_ ?_
          refine re_iconst (pc := 51) (-1 : Int32) (by decide +kernel : decode cX12_dies 51 = .ok (.iconst (-1), 1)) (by decide) ?_
          cases h
          exact re_iret (fun ty hty => by cases hty; rfl) (by decide +kernel : decode cX12_dies 52 = .ok (.ireturn, 1))
theorem metX12_dies (n : Nat) (S : rvS) (a0 : Nat) (x1 : Int32) (x2 : Int32) (r : Int32) (S' : rvS) (h : fnX12_dies n S a0 x1 x2 = some (r, S')) : rv_Met yX12_dies mX12_dies 5 [.ref a0, .int x1, .int x2] S (some (.int r)) S' := rv_Met.of ⟨by decide +kernel, rfl, (fun z => by first | rfl | cases z), rfl⟩ (Nat.le_of_ble_eq_true rfl) rfl (eX12_dies_in n S a0 x1 x2 r S' h)
noncomputable def fnX12_stuck (n : Nat) (S : rvS) (a0 : Nat) (x1 : Int32) : Option Int32 :=
  (rv_gR S 10 a0 1).bind fun a1_ =>
  (rv_ck S 8 a1_).bind fun u3_ =>
  (fnX9_stuckCoins n S a1_).bind fun x6_ =>
  (fnX12_countOrOne n S x6_ x1).bind fun x9_ =>
  some x9_
set_option maxRecDepth 20000 in
set_option maxHeartbeats 4000000 in
theorem eX12_stuck_in (n : Nat) (S : rvS) (a0 : Nat) (x1 : Int32) (r : Int32) (h : fnX12_stuck n S a0 x1 = some r) : rv_Ev mX12_stuck 4 0 [(0, .ref a0), (1, .int x1)] [] S (some (.int r)) S := by
  unfold fnX12_stuck at h
  refine re_aloadn (pc := 0) 0 (by decide +kernel : decode cX12_stuck 0 = .ok (.aload_n 0, 1)) rfl ?_
  obtain ⟨a1_, g2_, h⟩ := rv_b_e h
  refine re_gR (pc := 1) g2_ lfX12_19 rfl (by decide +kernel : decode cX12_stuck 1 = .ok (.getfield 19, 3)) ?_
  obtain ⟨u3_, g4_, h⟩ := rv_b_e h
  obtain ⟨x6_, g7_, h⟩ := rv_b_e h
  have m5_ := metX9_stuckCoins n S a1_ _ g7_
  refine re_cV (pc := 4) [] m5_ (rv_okl.k ⟨rfl, rfl⟩) (rv_up.rf _ _) (by decide) (rv_ck_e g4_) ⟨by decide, rfl⟩ (Nat.le_of_ble_eq_true rfl) lVX12_267 rfl (by decide +kernel : decode cX12_stuck 4 = .ok (.invokevirtual 267, 3)) ?_
  refine re_iloadn (pc := 7) 1 (by decide +kernel : decode cX12_stuck 7 = .ok (.iload_n 1, 1)) rfl ?_
  obtain ⟨x9_, g10_, h⟩ := rv_b_e h
  have m8_ := metX12_countOrOne n S x6_ x1 _ g10_
  refine re_cS (pc := 8) [.long x6_, .int x1] m8_ (rv_okl.k ⟨rfl, rfl⟩) (rv_up.rf _ _) (by decide) (Nat.le_of_ble_eq_true rfl) lSX12_271 rfl (by decide +kernel : decode cX12_stuck 8 = .ok (.invokestatic 271, 3)) ?_
  cases h
  exact re_iret (fun ty hty => by cases hty; rfl) (by decide +kernel : decode cX12_stuck 11 = .ok (.ireturn, 1))
theorem metX12_stuck (n : Nat) (S : rvS) (a0 : Nat) (x1 : Int32) (r : Int32) (h : fnX12_stuck n S a0 x1 = some r) : rv_Met yX12_stuck mX12_stuck 4 [.ref a0, .int x1] S (some (.int r)) S := rv_Met.of ⟨by decide +kernel, rfl, (fun z => by first | rfl | cases z), rfl⟩ (Nat.le_of_ble_eq_true rfl) rfl (eX12_stuck_in n S a0 x1 r h)
noncomputable def fnX12_frees (n : Nat) (S : rvS) (a0 : Nat) (x1 : Int32) : Option Int32 :=
  (fnX1_isVillage n S x1).bind fun x2_ =>
  if x2_ = 0 then (
    some (-1 : Int32))
  else (
    (rv_gR S 10 a0 1).bind fun a5_ =>
    (rv_ck S 8 a5_).bind fun u7_ =>
    (fnX9_freedIn n S a5_ x1).bind fun x10_ =>
    some x10_)
set_option maxRecDepth 20000 in
set_option maxHeartbeats 4000000 in
theorem eX12_frees_in (n : Nat) (S : rvS) (a0 : Nat) (x1 : Int32) (r : Int32) (h : fnX12_frees n S a0 x1 = some r) : rv_Ev mX12_frees 5 0 [(0, .ref a0), (1, .int x1)] [] S (some (.int r)) S := by
  unfold fnX12_frees at h
  refine re_iloadn (pc := 0) 1 (by decide +kernel : decode cX12_frees 0 = .ok (.iload_n 1, 1)) rfl ?_
  obtain ⟨x2_, g3_, h⟩ := rv_b_e h
  have m1_ := metX1_isVillage n S x1 _ g3_
  refine re_cS (pc := 1) [.int x1] m1_ (rv_okl.k ⟨rfl, rfl⟩) (rv_up.rf _ _) (by decide) (Nat.le_of_ble_eq_true rfl) lSX12_185 rfl (by decide +kernel : decode cX12_frees 1 = .ok (.invokestatic 185, 3)) ?_
  rcases rv_if_e h with ⟨g4_, h⟩ | ⟨g4_, h⟩
  · refine re_if_eq_t (pc := 4) 18 (by decide +kernel : decode cX12_frees 4 = .ok (.ifCond .eq 14, 3)) (by decide) g4_ ?_
    refine re_iconst (pc := 18) (-1 : Int32) (by decide +kernel : decode cX12_frees 18 = .ok (.iconst (-1), 1)) (by decide) ?_
    cases h
    exact re_iret (fun ty hty => by cases hty; rfl) (by decide +kernel : decode cX12_frees 19 = .ok (.ireturn, 1))
  · refine re_if_eq_f (pc := 4) 18 (by decide +kernel : decode cX12_frees 4 = .ok (.ifCond .eq 14, 3)) (by decide) g4_ ?_
    refine re_aloadn (pc := 7) 0 (by decide +kernel : decode cX12_frees 7 = .ok (.aload_n 0, 1)) rfl ?_
    obtain ⟨a5_, g6_, h⟩ := rv_b_e h
    refine re_gR (pc := 8) g6_ lfX12_19 rfl (by decide +kernel : decode cX12_frees 8 = .ok (.getfield 19, 3)) ?_
    refine re_iloadn (pc := 11) 1 (by decide +kernel : decode cX12_frees 11 = .ok (.iload_n 1, 1)) rfl ?_
    obtain ⟨u7_, g8_, h⟩ := rv_b_e h
    obtain ⟨x10_, g11_, h⟩ := rv_b_e h
    have m9_ := metX9_freedIn n S a5_ x1 _ g11_
    refine re_cV (pc := 12) [.int x1] m9_ (rv_okl.k ⟨rfl, rfl⟩) (rv_up.rf _ _) (by decide) (rv_ck_e g8_) ⟨by decide, rfl⟩ (Nat.le_of_ble_eq_true rfl) lVX12_274 rfl (by decide +kernel : decode cX12_frees 12 = .ok (.invokevirtual 274, 3)) ?_
    refine re_goto (pc := 15) 19 (by decide +kernel : decode cX12_frees 15 = .ok (.goto 4, 3)) (by decide) ?_
    cases h
    exact re_iret (fun ty hty => by cases hty; rfl) (by decide +kernel : decode cX12_frees 19 = .ok (.ireturn, 1))
theorem metX12_frees (n : Nat) (S : rvS) (a0 : Nat) (x1 : Int32) (r : Int32) (h : fnX12_frees n S a0 x1 = some r) : rv_Met yX12_frees mX12_frees 5 [.ref a0, .int x1] S (some (.int r)) S := rv_Met.of ⟨by decide +kernel, rfl, (fun z => by first | rfl | cases z), rfl⟩ (Nat.le_of_ble_eq_true rfl) rfl (eX12_frees_in n S a0 x1 r h)
noncomputable def cX12_cradle_4 (n : Nat) (S : rvS) : Nat → Nat → Int32 → Int32 → Option Int32
  | 0, _, _, _ => none
  | k + 1, a0, x1, x2 =>
    if (4 : Int32) ≤ x2 then (
      some x1)
    else (
      (rv_gR S 10 a0 1).bind fun a2_ =>
      (rv_ck S 8 a2_).bind fun u4_ =>
      (fnX9_freedIn n S a2_ x2).bind fun x7_ =>
      (rv_gR S 10 a0 1).bind fun a9_ =>
      (rv_ck S 8 a9_).bind fun u11_ =>
      (fnX9_freedIn n S a9_ x1).bind fun x14_ =>
      if x7_ ≤ x14_ then (
        rv_lt (x2 + (1)) fun x17_ =>
        cX12_cradle_4 n S k a0 x1 x17_)
      else (
        rv_lt (x2 + (1)) fun x19_ =>
        cX12_cradle_4 n S k a0 x2 x19_))
set_option maxRecDepth 20000 in
set_option maxHeartbeats 4000000 in
theorem eX12_cradle_4 (n : Nat) (S : rvS) : ∀ (k : Nat) (a0 : Nat) (x1 : Int32) (x2 : Int32) (r : Int32), cX12_cradle_4 n S k a0 x1 x2 = some r → rv_Ev mX12_cradle 5 4 [(0, .ref a0), (1, .int x1), (2, .int x2)] [] S (some (.int r)) S := by
  intro k
  induction k with
  | zero => intro a0 x1 x2 r h; exact absurd h (by simp [cX12_cradle_4])
  | succ k ih =>
    intro a0 x1 x2 r h
    unfold cX12_cradle_4 at h
    refine re_iloadn (pc := 4) 2 (by decide +kernel : decode cX12_cradle 4 = .ok (.iload_n 2, 1)) rfl ?_
    refine re_iconst (pc := 5) (4 : Int32) (by decide +kernel : decode cX12_cradle 5 = .ok (.iconst 4, 1)) (by decide) ?_
    rcases rv_if_e h with ⟨g1_, h⟩ | ⟨g1_, h⟩
    · refine re_icmp_ge_t (pc := 6) 36 (by decide +kernel : decode cX12_cradle 6 = .ok (.if_icmp .ge 30, 3)) (by decide) g1_ ?_
      refine re_iloadn (pc := 36) 1 (by decide +kernel : decode cX12_cradle 36 = .ok (.iload_n 1, 1)) rfl ?_
      cases h
      exact re_iret (fun ty hty => by cases hty; rfl) (by decide +kernel : decode cX12_cradle 37 = .ok (.ireturn, 1))
    · refine re_icmp_ge_f (pc := 6) 36 (by decide +kernel : decode cX12_cradle 6 = .ok (.if_icmp .ge 30, 3)) (by decide) g1_ ?_
      refine re_aloadn (pc := 9) 0 (by decide +kernel : decode cX12_cradle 9 = .ok (.aload_n 0, 1)) rfl ?_
      obtain ⟨a2_, g3_, h⟩ := rv_b_e h
      refine re_gR (pc := 10) g3_ lfX12_19 rfl (by decide +kernel : decode cX12_cradle 10 = .ok (.getfield 19, 3)) ?_
      refine re_iloadn (pc := 13) 2 (by decide +kernel : decode cX12_cradle 13 = .ok (.iload_n 2, 1)) rfl ?_
      obtain ⟨u4_, g5_, h⟩ := rv_b_e h
      obtain ⟨x7_, g8_, h⟩ := rv_b_e h
      have m6_ := metX9_freedIn n S a2_ x2 _ g8_
      refine re_cV (pc := 14) [.int x2] m6_ (rv_okl.k ⟨rfl, rfl⟩) (rv_up.rf _ _) (by decide) (rv_ck_e g5_) ⟨by decide, rfl⟩ (Nat.le_of_ble_eq_true rfl) lVX12_274 rfl (by decide +kernel : decode cX12_cradle 14 = .ok (.invokevirtual 274, 3)) ?_
      refine re_aloadn (pc := 17) 0 (by decide +kernel : decode cX12_cradle 17 = .ok (.aload_n 0, 1)) rfl ?_
      obtain ⟨a9_, g10_, h⟩ := rv_b_e h
      refine re_gR (pc := 18) g10_ lfX12_19 rfl (by decide +kernel : decode cX12_cradle 18 = .ok (.getfield 19, 3)) ?_
      refine re_iloadn (pc := 21) 1 (by decide +kernel : decode cX12_cradle 21 = .ok (.iload_n 1, 1)) rfl ?_
      obtain ⟨u11_, g12_, h⟩ := rv_b_e h
      obtain ⟨x14_, g15_, h⟩ := rv_b_e h
      have m13_ := metX9_freedIn n S a9_ x1 _ g15_
      refine re_cV (pc := 22) [.int x1] m13_ (rv_okl.k ⟨rfl, rfl⟩) (rv_up.rf _ _) (by decide) (rv_ck_e g12_) ⟨by decide, rfl⟩ (Nat.le_of_ble_eq_true rfl) lVX12_274 rfl (by decide +kernel : decode cX12_cradle 22 = .ok (.invokevirtual 274, 3)) ?_
      rcases rv_if_e h with ⟨g16_, h⟩ | ⟨g16_, h⟩
      · refine re_icmp_le_t (pc := 25) 30 (by decide +kernel : decode cX12_cradle 25 = .ok (.if_icmp .le 5, 3)) (by decide) g16_ ?_
        obtain ⟨x17_, g18_, h⟩ := rv_lt_e h
        refine re_iinc (pc := 30) 2 x17_ (lv1 := [(2, .int x17_), (0, .ref a0), (1, .int x1)]) (by decide +kernel : decode cX12_cradle 30 = .ok (.iinc 2 1, 3)) rfl g18_ (by decide) rfl ?_
        refine re_goto (pc := 33) 4 (by decide +kernel : decode cX12_cradle 33 = .ok (.goto (-29), 3)) (by decide) ?_
        refine re_sub [1, 2, 0] (lv1 := [(0, .ref a0), (1, .int x1), (2, .int x17_)]) rfl ?_
        exact ih a0 x1 x17_ _ h
      · refine re_icmp_le_f (pc := 25) 30 (by decide +kernel : decode cX12_cradle 25 = .ok (.if_icmp .le 5, 3)) (by decide) g16_ ?_
        refine re_iloadn (pc := 28) 2 (by decide +kernel : decode cX12_cradle 28 = .ok (.iload_n 2, 1)) rfl ?_
        refine re_istoren (pc := 29) (lv1 := [(1, .int x2), (0, .ref a0), (2, .int x2)]) (by decide +kernel : decode cX12_cradle 29 = .ok (.istore_n 1, 1)) rfl (by decide) rfl ?_
        obtain ⟨x19_, g20_, h⟩ := rv_lt_e h
        refine re_iinc (pc := 30) 2 x19_ (lv1 := [(2, .int x19_), (1, .int x2), (0, .ref a0)]) (by decide +kernel : decode cX12_cradle 30 = .ok (.iinc 2 1, 3)) rfl g20_ (by decide) rfl ?_
        refine re_goto (pc := 33) 4 (by decide +kernel : decode cX12_cradle 33 = .ok (.goto (-29), 3)) (by decide) ?_
        refine re_sub [2, 1, 0] (lv1 := [(0, .ref a0), (1, .int x2), (2, .int x19_)]) rfl ?_
        exact ih a0 x2 x19_ _ h
noncomputable def fnX12_cradle (n : Nat) (S : rvS) (a0 : Nat) : Option Int32 :=
  cX12_cradle_4 n S n a0 (0 : Int32) (1 : Int32)
set_option maxRecDepth 20000 in
set_option maxHeartbeats 4000000 in
theorem eX12_cradle_in (n : Nat) (S : rvS) (a0 : Nat) (r : Int32) (h : fnX12_cradle n S a0 = some r) : rv_Ev mX12_cradle 5 0 [(0, .ref a0)] [] S (some (.int r)) S := by
  unfold fnX12_cradle at h
  refine re_iconst (pc := 0) (0 : Int32) (by decide +kernel : decode cX12_cradle 0 = .ok (.iconst 0, 1)) (by decide) ?_
  refine re_istoren (pc := 1) (lv1 := [(1, .int (0 : Int32)), (0, .ref a0)]) (by decide +kernel : decode cX12_cradle 1 = .ok (.istore_n 1, 1)) rfl (by decide) rfl ?_
  refine re_iconst (pc := 2) (1 : Int32) (by decide +kernel : decode cX12_cradle 2 = .ok (.iconst 1, 1)) (by decide) ?_
  refine re_istoren (pc := 3) (lv1 := [(2, .int (1 : Int32)), (1, .int (0 : Int32)), (0, .ref a0)]) (by decide +kernel : decode cX12_cradle 3 = .ok (.istore_n 2, 1)) rfl (by decide) rfl ?_
  refine re_sub [2, 1, 0] (lv1 := [(0, .ref a0), (1, .int (0 : Int32)), (2, .int (1 : Int32))]) rfl ?_
  exact eX12_cradle_4 n S n a0 (0 : Int32) (1 : Int32) _ h
theorem metX12_cradle (n : Nat) (S : rvS) (a0 : Nat) (r : Int32) (h : fnX12_cradle n S a0 = some r) : rv_Met yX12_cradle mX12_cradle 5 [.ref a0] S (some (.int r)) S := rv_Met.of ⟨by decide +kernel, rfl, (fun z => by first | rfl | cases z), rfl⟩ (Nat.le_of_ble_eq_true rfl) rfl (eX12_cradle_in n S a0 r h)
noncomputable def fnX12_stuckWithRoad (n : Nat) (S : rvS) (a0 : Nat) (x1 : Int32) (x2 : Int32) : Option (Int32 × rvS) :=
  (rv_gR S 10 a0 2).bind fun a1_ =>
  (rv_gR S 10 a0 1).bind fun a3_ =>
  (rv_ck S 8 a1_).bind fun u5_ =>
  (fnX9_copyFrom n S a1_ a3_).bind fun S8_ =>
  (rv_gR S8_ 10 a0 2).bind fun a11_ =>
  (rv_gR S8_ 8 a11_ 0).bind fun a13_ =>
  (rv_ck S8_ 0 a13_).bind fun u15_ =>
  (fnX1_join n S8_ a13_ x1 x2).bind fun S18_ =>
  (rv_gR S18_ 10 a0 2).bind fun a21_ =>
  (rv_ck S18_ 8 a21_).bind fun u23_ =>
  (fnX9_stuckCoins n S18_ a21_).bind fun x26_ =>
  (fnJ13_bitCount_95d88 n S18_ x26_).bind fun x29_ =>
  some (x29_, S18_)
set_option maxRecDepth 20000 in
set_option maxHeartbeats 4000000 in
theorem eX12_stuckWithRoad_in (n : Nat) (S : rvS) (a0 : Nat) (x1 : Int32) (x2 : Int32) (r : Int32) (S' : rvS) (h : fnX12_stuckWithRoad n S a0 x1 x2 = some (r, S')) : rv_Ev mX12_stuckWithRoad 4 0 [(0, .ref a0), (1, .int x1), (2, .int x2)] [] S (some (.int r)) S' := by
  unfold fnX12_stuckWithRoad at h
  refine re_aloadn (pc := 0) 0 (by decide +kernel : decode cX12_stuckWithRoad 0 = .ok (.aload_n 0, 1)) rfl ?_
  obtain ⟨a1_, g2_, h⟩ := rv_b_e h
  refine re_gR (pc := 1) g2_ lfX12_23 rfl (by decide +kernel : decode cX12_stuckWithRoad 1 = .ok (.getfield 23, 3)) ?_
  refine re_aloadn (pc := 4) 0 (by decide +kernel : decode cX12_stuckWithRoad 4 = .ok (.aload_n 0, 1)) rfl ?_
  obtain ⟨a3_, g4_, h⟩ := rv_b_e h
  refine re_gR (pc := 5) g4_ lfX12_19 rfl (by decide +kernel : decode cX12_stuckWithRoad 5 = .ok (.getfield 19, 3)) ?_
  obtain ⟨u5_, g6_, h⟩ := rv_b_e h
  obtain ⟨S8_, g9_, h⟩ := rv_b_e h
  have m7_ := metX9_copyFrom n S a1_ a3_ _ g9_
  have z10_ : rv_same S S8_ := m7_.sh rfl
  refine re_cV (pc := 8) [.ref a3_] m7_ (rv_okl.k z10_) (rv_up.sh z10_) (by decide) (rv_ck_e g6_) ⟨by decide, rfl⟩ (Nat.le_of_ble_eq_true rfl) lVX12_84 rfl (by decide +kernel : decode cX12_stuckWithRoad 8 = .ok (.invokevirtual 84, 3)) ?_
  refine re_aloadn (pc := 11) 0 (by decide +kernel : decode cX12_stuckWithRoad 11 = .ok (.aload_n 0, 1)) rfl ?_
  obtain ⟨a11_, g12_, h⟩ := rv_b_e h
  refine re_gR (pc := 12) g12_ lfX12_23 rfl (by decide +kernel : decode cX12_stuckWithRoad 12 = .ok (.getfield 23, 3)) ?_
  obtain ⟨a13_, g14_, h⟩ := rv_b_e h
  refine re_gR (pc := 15) g14_ lfX12_115 rfl (by decide +kernel : decode cX12_stuckWithRoad 15 = .ok (.getfield 115, 3)) ?_
  refine re_iloadn (pc := 18) 1 (by decide +kernel : decode cX12_stuckWithRoad 18 = .ok (.iload_n 1, 1)) rfl ?_
  refine re_iloadn (pc := 19) 2 (by decide +kernel : decode cX12_stuckWithRoad 19 = .ok (.iload_n 2, 1)) rfl ?_
  obtain ⟨u15_, g16_, h⟩ := rv_b_e h
  obtain ⟨S18_, g19_, h⟩ := rv_b_e h
  have m17_ := metX1_join n S8_ a13_ x1 x2 _ g19_
  have z20_ : rv_same S8_ S18_ := m17_.sh rfl
  refine re_cV (pc := 20) [.int x1, .int x2] m17_ (rv_okl.k z20_) (rv_up.sh z20_) (by decide) (rv_ck_e g16_) ⟨by decide, rfl⟩ (Nat.le_of_ble_eq_true rfl) lVX12_192 rfl (by decide +kernel : decode cX12_stuckWithRoad 20 = .ok (.invokevirtual 192, 3)) ?_
  refine re_aloadn (pc := 23) 0 (by decide +kernel : decode cX12_stuckWithRoad 23 = .ok (.aload_n 0, 1)) rfl ?_
  obtain ⟨a21_, g22_, h⟩ := rv_b_e h
  refine re_gR (pc := 24) g22_ lfX12_23 rfl (by decide +kernel : decode cX12_stuckWithRoad 24 = .ok (.getfield 23, 3)) ?_
  obtain ⟨u23_, g24_, h⟩ := rv_b_e h
  obtain ⟨x26_, g27_, h⟩ := rv_b_e h
  have m25_ := metX9_stuckCoins n S18_ a21_ _ g27_
  refine re_cV (pc := 27) [] m25_ (rv_okl.k ⟨rfl, rfl⟩) (rv_up.rf _ _) (by decide) (rv_ck_e g24_) ⟨by decide, rfl⟩ (Nat.le_of_ble_eq_true rfl) lVX12_267 rfl (by decide +kernel : decode cX12_stuckWithRoad 27 = .ok (.invokevirtual 267, 3)) ?_
  obtain ⟨x29_, g30_, h⟩ := rv_b_e h
  have m28_ := metJ13_bitCount_95d88 n S18_ x26_ _ g30_
  refine re_cS (pc := 30) [.long x26_] m28_ (rv_okl.k ⟨rfl, rfl⟩) (rv_up.rf _ _) (by decide) (Nat.le_of_ble_eq_true rfl) lSX12_148 rfl (by decide +kernel : decode cX12_stuckWithRoad 30 = .ok (.invokestatic 148, 3)) ?_
  cases h
  exact re_iret (fun ty hty => by cases hty; rfl) (by decide +kernel : decode cX12_stuckWithRoad 33 = .ok (.ireturn, 1))
theorem metX12_stuckWithRoad (n : Nat) (S : rvS) (a0 : Nat) (x1 : Int32) (x2 : Int32) (r : Int32) (S' : rvS) (h : fnX12_stuckWithRoad n S a0 x1 x2 = some (r, S')) : rv_Met yX12_stuckWithRoad mX12_stuckWithRoad 4 [.ref a0, .int x1, .int x2] S (some (.int r)) S' := rv_Met.of ⟨by decide +kernel, rfl, (fun z => by first | rfl | cases z), rfl⟩ (Nat.le_of_ble_eq_true rfl) rfl (eX12_stuckWithRoad_in n S a0 x1 x2 r S' h)
noncomputable def cX12_opens_58 (n : Nat) (K6 : Nat → Int32 → Int32 → Int32 → rvS → Option (Int32 × rvS)) (K16 : Nat → Int32 → Int32 → Int32 → Int32 → rvS → Option (Int32 × rvS)) (S : rvS) (a0 : Nat) (x3 : Int32) (x4 : Int32) (x5 : Int32) : Option (Int32 × rvS) :=
  rv_lt (((10 : Int32) * x3) + x4) fun x1_ =>
  rv_lt (x4 + (1)) fun x3_ =>
  K16 a0 x1_ x5 x3 x3_ S
set_option maxRecDepth 20000 in
set_option maxHeartbeats 4000000 in
theorem eX12_opens_58 (n : Nat) (K6 : Nat → Int32 → Int32 → Int32 → rvS → Option (Int32 × rvS)) (K16 : Nat → Int32 → Int32 → Int32 → Int32 → rvS → Option (Int32 × rvS)) (hK6 : ∀ (a0 : Nat) (x1 : Int32) (x2 : Int32) (x3 : Int32) (S : rvS) (r : Int32) (S' : rvS), K6 a0 x1 x2 x3 S = some (r, S') → rv_Ev mX12_opens 5 6 [(0, .ref a0), (1, .int x1), (2, .int x2), (3, .int x3)] [] S (some (.int r)) S') (hK16 : ∀ (a0 : Nat) (x1 : Int32) (x2 : Int32) (x3 : Int32) (x4 : Int32) (S : rvS) (r : Int32) (S' : rvS), K16 a0 x1 x2 x3 x4 S = some (r, S') → rv_Ev mX12_opens 5 16 [(0, .ref a0), (1, .int x1), (2, .int x2), (3, .int x3), (4, .int x4)] [] S (some (.int r)) S') (S : rvS) (a0 : Nat) (x3 : Int32) (x4 : Int32) (x5 : Int32) (r : Int32) (S' : rvS) (h : cX12_opens_58 n K6 K16 S a0 x3 x4 x5 = some (r, S')) : rv_Ev mX12_opens 5 58 [(0, .ref a0), (3, .int x3), (4, .int x4), (5, .int x5)] [] S (some (.int r)) S' := by
  unfold cX12_opens_58 at h
  refine re_bipush (pc := 58) (10 : Int32) (by decide +kernel : decode cX12_opens 58 = .ok (.bipush 10, 2)) (by decide) ?_
  refine re_iloadn (pc := 60) 1 (by decide +kernel : decode cX12_opens 60 = .ok (.iload_n 3, 1)) rfl ?_
  refine re_imul (pc := 61) (by decide +kernel : decode cX12_opens 61 = .ok (.imul, 1)) ?_
  refine re_iload (pc := 62) 2 (by decide +kernel : decode cX12_opens 62 = .ok (.iload 4, 2)) rfl ?_
  refine re_iadd (pc := 64) (by decide +kernel : decode cX12_opens 64 = .ok (.iadd, 1)) ?_
  obtain ⟨x1_, g2_, h⟩ := rv_lt_e h
  refine re_nI (pc := 65) g2_ ?_
  refine re_istoren (pc := 65) (lv1 := [(1, .int x1_), (0, .ref a0), (3, .int x3), (4, .int x4), (5, .int x5)]) (by decide +kernel : decode cX12_opens 65 = .ok (.istore_n 1, 1)) rfl (by decide) rfl ?_
  refine re_iload (pc := 66) 4 (by decide +kernel : decode cX12_opens 66 = .ok (.iload 5, 2)) rfl ?_
  refine re_istoren (pc := 68) (lv1 := [(2, .int x5), (1, .int x1_), (0, .ref a0), (3, .int x3), (4, .int x4), (5, .int x5)]) (by decide +kernel : decode cX12_opens 68 = .ok (.istore_n 2, 1)) rfl (by decide) rfl ?_
  obtain ⟨x3_, g4_, h⟩ := rv_lt_e h
  refine re_iinc (pc := 69) 4 x3_ (lv1 := [(4, .int x3_), (2, .int x5), (1, .int x1_), (0, .ref a0), (3, .int x3), (5, .int x5)]) (by decide +kernel : decode cX12_opens 69 = .ok (.iinc 4 1, 3)) rfl g4_ (by decide) rfl ?_
  refine re_goto (pc := 72) 16 (by decide +kernel : decode cX12_opens 72 = .ok (.goto (-56), 3)) (by decide) ?_
  refine re_sub [3, 2, 1, 4, 0] (lv1 := [(0, .ref a0), (1, .int x1_), (2, .int x5), (3, .int x3), (4, .int x3_)]) rfl ?_
  exact hK16 a0 x1_ x5 x3 x3_ S _ _ h
noncomputable def cX12_opens_16 (n : Nat) (K6 : Nat → Int32 → Int32 → Int32 → rvS → Option (Int32 × rvS)) : Nat → rvS → Nat → Int32 → Int32 → Int32 → Int32 → Option (Int32 × rvS)
  | 0, _, _, _, _, _, _ => none
  | k + 1, S, a0, x1, x2, x3, x4 =>
    if (4 : Int32) ≤ x4 then (
      rv_lt (x3 + (1)) fun x2_ =>
      K6 a0 x1 x2 x2_ S)
    else (
      (rv_gR S 10 a0 1).bind fun a4_ =>
      (rv_gR S 8 a4_ 0).bind fun a6_ =>
      (rv_ck S 0 a6_).bind fun u8_ =>
      (fnX1_areNear n S a6_ x3 x4).bind fun x11_ =>
      if x11_ = 0 then (
        (rv_ck S 10 a0).bind fun u16_ =>
        rv_bp (fnX12_stuckWithRoad n S a0 x3 x4) fun x19_ S20_ =>
        if x1 = (-1 : Int32) then (
          cX12_opens_58 n K6 (fun a0 x1 x2 x3 x4 S => cX12_opens_16 n K6 k S a0 x1 x2 x3 x4) S20_ a0 x3 x4 x19_)
        else (
          if x2 ≤ x19_ then (
            rv_lt (x4 + (1)) fun x25_ =>
            cX12_opens_16 n K6 k S20_ a0 x1 x2 x3 x25_)
          else (
            cX12_opens_58 n K6 (fun a0 x1 x2 x3 x4 S => cX12_opens_16 n K6 k S a0 x1 x2 x3 x4) S20_ a0 x3 x4 x19_)))
      else (
        rv_lt (x4 + (1)) fun x14_ =>
        cX12_opens_16 n K6 k S a0 x1 x2 x3 x14_))
set_option maxRecDepth 20000 in
set_option maxHeartbeats 4000000 in
theorem eX12_opens_16 (n : Nat) (K6 : Nat → Int32 → Int32 → Int32 → rvS → Option (Int32 × rvS)) (hK6 : ∀ (a0 : Nat) (x1 : Int32) (x2 : Int32) (x3 : Int32) (S : rvS) (r : Int32) (S' : rvS), K6 a0 x1 x2 x3 S = some (r, S') → rv_Ev mX12_opens 5 6 [(0, .ref a0), (1, .int x1), (2, .int x2), (3, .int x3)] [] S (some (.int r)) S') : ∀ (k : Nat) (S : rvS) (a0 : Nat) (x1 : Int32) (x2 : Int32) (x3 : Int32) (x4 : Int32) (r : Int32) (S' : rvS), cX12_opens_16 n K6 k S a0 x1 x2 x3 x4 = some (r, S') → rv_Ev mX12_opens 5 16 [(0, .ref a0), (1, .int x1), (2, .int x2), (3, .int x3), (4, .int x4)] [] S (some (.int r)) S' := by
  intro k
  induction k with
  | zero => intro S a0 x1 x2 x3 x4 r S' h; exact absurd h (by simp [cX12_opens_16])
  | succ k ih =>
    intro S a0 x1 x2 x3 x4 r S' h
    unfold cX12_opens_16 at h
    refine re_iload (pc := 16) 4 (by decide +kernel : decode cX12_opens 16 = .ok (.iload 4, 2)) rfl ?_
    refine re_iconst (pc := 18) (4 : Int32) (by decide +kernel : decode cX12_opens 18 = .ok (.iconst 4, 1)) (by decide) ?_
    rcases rv_if_e h with ⟨g1_, h⟩ | ⟨g1_, h⟩
    · refine re_icmp_ge_t (pc := 19) 75 (by decide +kernel : decode cX12_opens 19 = .ok (.if_icmp .ge 56, 3)) (by decide) g1_ ?_
      obtain ⟨x2_, g3_, h⟩ := rv_lt_e h
      refine re_iinc (pc := 75) 3 x2_ (lv1 := [(3, .int x2_), (0, .ref a0), (1, .int x1), (2, .int x2), (4, .int x4)]) (by decide +kernel : decode cX12_opens 75 = .ok (.iinc 3 1, 3)) rfl g3_ (by decide) rfl ?_
      refine re_goto (pc := 78) 6 (by decide +kernel : decode cX12_opens 78 = .ok (.goto (-72), 3)) (by decide) ?_
      refine re_sub [1, 2, 3, 0] (lv1 := [(0, .ref a0), (1, .int x1), (2, .int x2), (3, .int x2_)]) rfl ?_
      exact hK6 a0 x1 x2 x2_ S _ _ h
    · refine re_icmp_ge_f (pc := 19) 75 (by decide +kernel : decode cX12_opens 19 = .ok (.if_icmp .ge 56, 3)) (by decide) g1_ ?_
      refine re_aloadn (pc := 22) 0 (by decide +kernel : decode cX12_opens 22 = .ok (.aload_n 0, 1)) rfl ?_
      obtain ⟨a4_, g5_, h⟩ := rv_b_e h
      refine re_gR (pc := 23) g5_ lfX12_19 rfl (by decide +kernel : decode cX12_opens 23 = .ok (.getfield 19, 3)) ?_
      obtain ⟨a6_, g7_, h⟩ := rv_b_e h
      refine re_gR (pc := 26) g7_ lfX12_115 rfl (by decide +kernel : decode cX12_opens 26 = .ok (.getfield 115, 3)) ?_
      refine re_iloadn (pc := 29) 3 (by decide +kernel : decode cX12_opens 29 = .ok (.iload_n 3, 1)) rfl ?_
      refine re_iload (pc := 30) 4 (by decide +kernel : decode cX12_opens 30 = .ok (.iload 4, 2)) rfl ?_
      obtain ⟨u8_, g9_, h⟩ := rv_b_e h
      obtain ⟨x11_, g12_, h⟩ := rv_b_e h
      have m10_ := metX1_areNear n S a6_ x3 x4 _ g12_
      refine re_cV (pc := 32) [.int x3, .int x4] m10_ (rv_okl.k ⟨rfl, rfl⟩) (rv_up.rf _ _) (by decide) (rv_ck_e g9_) ⟨by decide, rfl⟩ (Nat.le_of_ble_eq_true rfl) lVX12_188 rfl (by decide +kernel : decode cX12_opens 32 = .ok (.invokevirtual 188, 3)) ?_
      rcases rv_if_e h with ⟨g13_, h⟩ | ⟨g13_, h⟩
      · refine re_if_ne_f (pc := 35) 69 (by decide +kernel : decode cX12_opens 35 = .ok (.ifCond .ne 34, 3)) (by decide) g13_ ?_
        refine re_aloadn (pc := 38) 0 (by decide +kernel : decode cX12_opens 38 = .ok (.aload_n 0, 1)) rfl ?_
        refine re_iloadn (pc := 39) 3 (by decide +kernel : decode cX12_opens 39 = .ok (.iload_n 3, 1)) rfl ?_
        refine re_iload (pc := 40) 4 (by decide +kernel : decode cX12_opens 40 = .ok (.iload 4, 2)) rfl ?_
        obtain ⟨u16_, g17_, h⟩ := rv_b_e h
        obtain ⟨x19_, S20_, g21_, h⟩ := rv_bp_e h
        have m18_ := metX12_stuckWithRoad n S a0 x3 x4 _ _ g21_
        have z22_ : rv_same S S20_ := m18_.sh rfl
        refine re_cV (pc := 42) [.int x3, .int x4] m18_ (rv_okl.k z22_) (rv_up.sh z22_) (by decide) (rv_ck_e g17_) ⟨by decide, rfl⟩ (Nat.le_of_ble_eq_true rfl) lVX12_277 rfl (by decide +kernel : decode cX12_opens 42 = .ok (.invokevirtual 277, 3)) ?_
        refine re_istore (pc := 45) (lv1 := [(5, .int x19_), (0, .ref a0), (1, .int x1), (2, .int x2), (3, .int x3), (4, .int x4)]) (by decide +kernel : decode cX12_opens 45 = .ok (.istore 5, 2)) (by decide) rfl ?_
        refine re_iloadn (pc := 47) 2 (by decide +kernel : decode cX12_opens 47 = .ok (.iload_n 1, 1)) rfl ?_
        refine re_iconst (pc := 48) (-1 : Int32) (by decide +kernel : decode cX12_opens 48 = .ok (.iconst (-1), 1)) (by decide) ?_
        rcases rv_if_e h with ⟨g23_, h⟩ | ⟨g23_, h⟩
        · refine re_icmp_eq_t (pc := 49) 58 (by decide +kernel : decode cX12_opens 49 = .ok (.if_icmp .eq 9, 3)) (by decide) g23_ ?_
          refine re_sub [1, 4, 5, 0] (lv1 := [(0, .ref a0), (3, .int x3), (4, .int x4), (5, .int x19_)]) rfl ?_
          exact eX12_opens_58 n K6 (fun a0 x1 x2 x3 x4 S => cX12_opens_16 n K6 k S a0 x1 x2 x3 x4) hK6 (fun a0 x1 x2 x3 x4 S _ _ h => ih S a0 x1 x2 x3 x4 _ _ h) S20_ a0 x3 x4 x19_ _ _ h
        · refine re_icmp_eq_f (pc := 49) 58 (by decide +kernel : decode cX12_opens 49 = .ok (.if_icmp .eq 9, 3)) (by decide) g23_ ?_
          refine re_iload (pc := 52) 0 (by decide +kernel : decode cX12_opens 52 = .ok (.iload 5, 2)) rfl ?_
          refine re_iloadn (pc := 54) 3 (by decide +kernel : decode cX12_opens 54 = .ok (.iload_n 2, 1)) rfl ?_
          rcases rv_if_e h with ⟨g24_, h⟩ | ⟨g24_, h⟩
          · refine re_icmp_ge_t (pc := 55) 69 (by decide +kernel : decode cX12_opens 55 = .ok (.if_icmp .ge 14, 3)) (by decide) g24_ ?_
            obtain ⟨x25_, g26_, h⟩ := rv_lt_e h
            refine re_iinc (pc := 69) 5 x25_ (lv1 := [(4, .int x25_), (5, .int x19_), (0, .ref a0), (1, .int x1), (2, .int x2), (3, .int x3)]) (by decide +kernel : decode cX12_opens 69 = .ok (.iinc 4 1, 3)) rfl g26_ (by decide) rfl ?_
            refine re_goto (pc := 72) 16 (by decide +kernel : decode cX12_opens 72 = .ok (.goto (-56), 3)) (by decide) ?_
            refine re_sub [2, 3, 4, 5, 0] (lv1 := [(0, .ref a0), (1, .int x1), (2, .int x2), (3, .int x3), (4, .int x25_)]) rfl ?_
            exact ih S20_ a0 x1 x2 x3 x25_ _ _ h
          · refine re_icmp_ge_f (pc := 55) 69 (by decide +kernel : decode cX12_opens 55 = .ok (.if_icmp .ge 14, 3)) (by decide) g24_ ?_
            refine re_sub [1, 4, 5, 0] (lv1 := [(0, .ref a0), (3, .int x3), (4, .int x4), (5, .int x19_)]) rfl ?_
            exact eX12_opens_58 n K6 (fun a0 x1 x2 x3 x4 S => cX12_opens_16 n K6 k S a0 x1 x2 x3 x4) hK6 (fun a0 x1 x2 x3 x4 S _ _ h => ih S a0 x1 x2 x3 x4 _ _ h) S20_ a0 x3 x4 x19_ _ _ h
      · refine re_if_ne_t (pc := 35) 69 (by decide +kernel : decode cX12_opens 35 = .ok (.ifCond .ne 34, 3)) (by decide) g13_ ?_
        obtain ⟨x14_, g15_, h⟩ := rv_lt_e h
        refine re_iinc (pc := 69) 4 x14_ (lv1 := [(4, .int x14_), (0, .ref a0), (1, .int x1), (2, .int x2), (3, .int x3)]) (by decide +kernel : decode cX12_opens 69 = .ok (.iinc 4 1, 3)) rfl g15_ (by decide) rfl ?_
        refine re_goto (pc := 72) 16 (by decide +kernel : decode cX12_opens 72 = .ok (.goto (-56), 3)) (by decide) ?_
        refine re_sub [1, 2, 3, 4, 0] (lv1 := [(0, .ref a0), (1, .int x1), (2, .int x2), (3, .int x3), (4, .int x14_)]) rfl ?_
        exact ih S a0 x1 x2 x3 x14_ _ _ h
noncomputable def cX12_opens_6 (n : Nat) : Nat → rvS → Nat → Int32 → Int32 → Int32 → Option (Int32 × rvS)
  | 0, _, _, _, _, _ => none
  | k + 1, S, a0, x1, x2, x3 =>
    if (4 : Int32) ≤ x3 then (
      some (x1, S))
    else (
      rv_lt (x3 + (1 : Int32)) fun x2_ =>
      cX12_opens_16 n (fun a0 x1 x2 x3 S => cX12_opens_6 n k S a0 x1 x2 x3) n S a0 x1 x2 x3 x2_)
set_option maxRecDepth 20000 in
set_option maxHeartbeats 4000000 in
theorem eX12_opens_6 (n : Nat) : ∀ (k : Nat) (S : rvS) (a0 : Nat) (x1 : Int32) (x2 : Int32) (x3 : Int32) (r : Int32) (S' : rvS), cX12_opens_6 n k S a0 x1 x2 x3 = some (r, S') → rv_Ev mX12_opens 5 6 [(0, .ref a0), (1, .int x1), (2, .int x2), (3, .int x3)] [] S (some (.int r)) S' := by
  intro k
  induction k with
  | zero => intro S a0 x1 x2 x3 r S' h; exact absurd h (by simp [cX12_opens_6])
  | succ k ih =>
    intro S a0 x1 x2 x3 r S' h
    unfold cX12_opens_6 at h
    refine re_iloadn (pc := 6) 3 (by decide +kernel : decode cX12_opens 6 = .ok (.iload_n 3, 1)) rfl ?_
    refine re_iconst (pc := 7) (4 : Int32) (by decide +kernel : decode cX12_opens 7 = .ok (.iconst 4, 1)) (by decide) ?_
    rcases rv_if_e h with ⟨g1_, h⟩ | ⟨g1_, h⟩
    · refine re_icmp_ge_t (pc := 8) 81 (by decide +kernel : decode cX12_opens 8 = .ok (.if_icmp .ge 73, 3)) (by decide) g1_ ?_
      refine re_iloadn (pc := 81) 1 (by decide +kernel : decode cX12_opens 81 = .ok (.iload_n 1, 1)) rfl ?_
      cases h
      exact re_iret (fun ty hty => by cases hty; rfl) (by decide +kernel : decode cX12_opens 82 = .ok (.ireturn, 1))
    · refine re_icmp_ge_f (pc := 8) 81 (by decide +kernel : decode cX12_opens 8 = .ok (.if_icmp .ge 73, 3)) (by decide) g1_ ?_
      refine re_iloadn (pc := 11) 3 (by decide +kernel : decode cX12_opens 11 = .ok (.iload_n 3, 1)) rfl ?_
      refine re_iconst (pc := 12) (1 : Int32) (by decide +kernel : decode cX12_opens 12 = .ok (.iconst 1, 1)) (by decide) ?_
      refine re_iadd (pc := 13) (by decide +kernel : decode cX12_opens 13 = .ok (.iadd, 1)) ?_
      obtain ⟨x2_, g3_, h⟩ := rv_lt_e h
      refine re_nI (pc := 14) g3_ ?_
      refine re_istore (pc := 14) (lv1 := [(4, .int x2_), (0, .ref a0), (1, .int x1), (2, .int x2), (3, .int x3)]) (by decide +kernel : decode cX12_opens 14 = .ok (.istore 4, 2)) (by decide) rfl ?_
      refine re_sub [1, 2, 3, 4, 0] (lv1 := [(0, .ref a0), (1, .int x1), (2, .int x2), (3, .int x3), (4, .int x2_)]) rfl ?_
      exact eX12_opens_16 n (fun a0 x1 x2 x3 S => cX12_opens_6 n k S a0 x1 x2 x3) (fun a0 x1 x2 x3 S _ _ h => ih S a0 x1 x2 x3 _ _ h) n S a0 x1 x2 x3 x2_ _ _ h
noncomputable def fnX12_opens (n : Nat) (S : rvS) (a0 : Nat) : Option (Int32 × rvS) :=
  cX12_opens_6 n n S a0 (-1 : Int32) (0 : Int32) (0 : Int32)
set_option maxRecDepth 20000 in
set_option maxHeartbeats 4000000 in
theorem eX12_opens_in (n : Nat) (S : rvS) (a0 : Nat) (r : Int32) (S' : rvS) (h : fnX12_opens n S a0 = some (r, S')) : rv_Ev mX12_opens 5 0 [(0, .ref a0)] [] S (some (.int r)) S' := by
  unfold fnX12_opens at h
  refine re_iconst (pc := 0) (-1 : Int32) (by decide +kernel : decode cX12_opens 0 = .ok (.iconst (-1), 1)) (by decide) ?_
  refine re_istoren (pc := 1) (lv1 := [(1, .int (-1 : Int32)), (0, .ref a0)]) (by decide +kernel : decode cX12_opens 1 = .ok (.istore_n 1, 1)) rfl (by decide) rfl ?_
  refine re_iconst (pc := 2) (0 : Int32) (by decide +kernel : decode cX12_opens 2 = .ok (.iconst 0, 1)) (by decide) ?_
  refine re_istoren (pc := 3) (lv1 := [(2, .int (0 : Int32)), (1, .int (-1 : Int32)), (0, .ref a0)]) (by decide +kernel : decode cX12_opens 3 = .ok (.istore_n 2, 1)) rfl (by decide) rfl ?_
  refine re_iconst (pc := 4) (0 : Int32) (by decide +kernel : decode cX12_opens 4 = .ok (.iconst 0, 1)) (by decide) ?_
  refine re_istoren (pc := 5) (lv1 := [(3, .int (0 : Int32)), (2, .int (0 : Int32)), (1, .int (-1 : Int32)), (0, .ref a0)]) (by decide +kernel : decode cX12_opens 5 = .ok (.istore_n 3, 1)) rfl (by decide) rfl ?_
  refine re_sub [3, 2, 1, 0] (lv1 := [(0, .ref a0), (1, .int (-1 : Int32)), (2, .int (0 : Int32)), (3, .int (0 : Int32))]) rfl ?_
  exact eX12_opens_6 n n S a0 (-1 : Int32) (0 : Int32) (0 : Int32) _ _ h
theorem metX12_opens (n : Nat) (S : rvS) (a0 : Nat) (r : Int32) (S' : rvS) (h : fnX12_opens n S a0 = some (r, S')) : rv_Met yX12_opens mX12_opens 5 [.ref a0] S (some (.int r)) S' := rv_Met.of ⟨by decide +kernel, rfl, (fun z => by first | rfl | cases z), rfl⟩ (Nat.le_of_ble_eq_true rfl) rfl (eX12_opens_in n S a0 r S' h)
noncomputable def fnX12_hands (n : Nat) (S : rvS) (a0 : Nat) (x1 : Int32) (x2 : Int32) : Option (Int32 × rvS) :=
  (rv_ck S 10 a0).bind fun u1_ =>
  (fnX12_isCoin n S a0 x1).bind fun x4_ =>
  if x4_ = 0 then (
    some ((-1 : Int32), S))
  else (
    (rv_ck S 10 a0).bind fun u7_ =>
    (fnX12_isWho n S a0 x2).bind fun x10_ =>
    if x10_ = 0 then (
      some ((-1 : Int32), S))
    else (
      (rv_gR S 10 a0 6).bind fun a13_ =>
      (rv_gR S 10 a0 1).bind fun a15_ =>
      (rv_ck S 1 a13_).bind fun u17_ =>
      rv_bp (fnX2_goTo n S a13_ a15_ x1 x2) fun x20_ S21_ =>
      some (x20_, S21_)))
set_option maxRecDepth 20000 in
set_option maxHeartbeats 4000000 in
theorem eX12_hands_in (n : Nat) (S : rvS) (a0 : Nat) (x1 : Int32) (x2 : Int32) (r : Int32) (S' : rvS) (h : fnX12_hands n S a0 x1 x2 = some (r, S')) : rv_Ev mX12_hands 5 0 [(0, .ref a0), (1, .int x1), (2, .int x2)] [] S (some (.int r)) S' := by
  unfold fnX12_hands at h
  refine re_aloadn (pc := 0) 0 (by decide +kernel : decode cX12_hands 0 = .ok (.aload_n 0, 1)) rfl ?_
  refine re_iloadn (pc := 1) 1 (by decide +kernel : decode cX12_hands 1 = .ok (.iload_n 1, 1)) rfl ?_
  obtain ⟨u1_, g2_, h⟩ := rv_b_e h
  obtain ⟨x4_, g5_, h⟩ := rv_b_e h
  have m3_ := metX12_isCoin n S a0 x1 _ g5_
  refine re_cV (pc := 2) [.int x1] m3_ (rv_okl.k ⟨rfl, rfl⟩) (rv_up.rf _ _) (by decide) (rv_ck_e g2_) ⟨by decide, rfl⟩ (Nat.le_of_ble_eq_true rfl) lVX12_157 rfl (by decide +kernel : decode cX12_hands 2 = .ok (.invokevirtual 157, 3)) ?_
  rcases rv_if_e h with ⟨g6_, h⟩ | ⟨g6_, h⟩
  · refine re_if_eq_t (pc := 5) 32 (by decide +kernel : decode cX12_hands 5 = .ok (.ifCond .eq 27, 3)) (by decide) g6_ ?_
    refine re_iconst (pc := 32) (-1 : Int32) (by decide +kernel : decode cX12_hands 32 = .ok (.iconst (-1), 1)) (by decide) ?_
    cases h
    exact re_iret (fun ty hty => by cases hty; rfl) (by decide +kernel : decode cX12_hands 33 = .ok (.ireturn, 1))
  · refine re_if_eq_f (pc := 5) 32 (by decide +kernel : decode cX12_hands 5 = .ok (.ifCond .eq 27, 3)) (by decide) g6_ ?_
    refine re_aloadn (pc := 8) 0 (by decide +kernel : decode cX12_hands 8 = .ok (.aload_n 0, 1)) rfl ?_
    refine re_iloadn (pc := 9) 2 (by decide +kernel : decode cX12_hands 9 = .ok (.iload_n 2, 1)) rfl ?_
    obtain ⟨u7_, g8_, h⟩ := rv_b_e h
    obtain ⟨x10_, g11_, h⟩ := rv_b_e h
    have m9_ := metX12_isWho n S a0 x2 _ g11_
    refine re_cV (pc := 10) [.int x2] m9_ (rv_okl.k ⟨rfl, rfl⟩) (rv_up.rf _ _) (by decide) (rv_ck_e g8_) ⟨by decide, rfl⟩ (Nat.le_of_ble_eq_true rfl) lVX12_104 rfl (by decide +kernel : decode cX12_hands 10 = .ok (.invokevirtual 104, 3)) ?_
    rcases rv_if_e h with ⟨g12_, h⟩ | ⟨g12_, h⟩
    · refine re_if_eq_t (pc := 13) 32 (by decide +kernel : decode cX12_hands 13 = .ok (.ifCond .eq 19, 3)) (by decide) g12_ ?_
      refine re_iconst (pc := 32) (-1 : Int32) (by decide +kernel : decode cX12_hands 32 = .ok (.iconst (-1), 1)) (by decide) ?_
      cases h
      exact re_iret (fun ty hty => by cases hty; rfl) (by decide +kernel : decode cX12_hands 33 = .ok (.ireturn, 1))
    · refine re_if_eq_f (pc := 13) 32 (by decide +kernel : decode cX12_hands 13 = .ok (.ifCond .eq 19, 3)) (by decide) g12_ ?_
      refine re_aloadn (pc := 16) 0 (by decide +kernel : decode cX12_hands 16 = .ok (.aload_n 0, 1)) rfl ?_
      obtain ⟨a13_, g14_, h⟩ := rv_b_e h
      refine re_gR (pc := 17) g14_ lfX12_40 rfl (by decide +kernel : decode cX12_hands 17 = .ok (.getfield 40, 3)) ?_
      refine re_aloadn (pc := 20) 0 (by decide +kernel : decode cX12_hands 20 = .ok (.aload_n 0, 1)) rfl ?_
      obtain ⟨a15_, g16_, h⟩ := rv_b_e h
      refine re_gR (pc := 21) g16_ lfX12_19 rfl (by decide +kernel : decode cX12_hands 21 = .ok (.getfield 19, 3)) ?_
      refine re_iloadn (pc := 24) 1 (by decide +kernel : decode cX12_hands 24 = .ok (.iload_n 1, 1)) rfl ?_
      refine re_iloadn (pc := 25) 2 (by decide +kernel : decode cX12_hands 25 = .ok (.iload_n 2, 1)) rfl ?_
      obtain ⟨u17_, g18_, h⟩ := rv_b_e h
      obtain ⟨x20_, S21_, g22_, h⟩ := rv_bp_e h
      have m19_ := metX2_goTo n S a13_ a15_ x1 x2 _ _ g22_
      have z23_ : rv_same S S21_ := m19_.sh rfl
      refine re_cV (pc := 26) [.ref a15_, .int x1, .int x2] m19_ (rv_okl.k z23_) (rv_up.sh z23_) (by decide) (rv_ck_e g18_) ⟨by decide, rfl⟩ (Nat.le_of_ble_eq_true rfl) lVX12_280 rfl (by decide +kernel : decode cX12_hands 26 = .ok (.invokevirtual 280, 3)) ?_
      refine re_goto (pc := 29) 33 (by decide +kernel : decode cX12_hands 29 = .ok (.goto 4, 3)) (by decide) ?_
      cases h
      exact re_iret (fun ty hty => by cases hty; rfl) (by decide +kernel : decode cX12_hands 33 = .ok (.ireturn, 1))
theorem metX12_hands (n : Nat) (S : rvS) (a0 : Nat) (x1 : Int32) (x2 : Int32) (r : Int32) (S' : rvS) (h : fnX12_hands n S a0 x1 x2 = some (r, S')) : rv_Met yX12_hands mX12_hands 5 [.ref a0, .int x1, .int x2] S (some (.int r)) S' := rv_Met.of ⟨by decide +kernel, rfl, (fun z => by first | rfl | cases z), rfl⟩ (Nat.le_of_ble_eq_true rfl) rfl (eX12_hands_in n S a0 x1 x2 r S' h)
noncomputable def fnX12_handAt (n : Nat) (S : rvS) (a0 : Nat) (x1 : Int32) : Option Int32 :=
  (rv_gR S 10 a0 6).bind fun a1_ =>
  (rv_ck S 1 a1_).bind fun u3_ =>
  (fnX2_handOf n S a1_ x1).bind fun x6_ =>
  some x6_
set_option maxRecDepth 20000 in
set_option maxHeartbeats 4000000 in
theorem eX12_handAt_in (n : Nat) (S : rvS) (a0 : Nat) (x1 : Int32) (r : Int32) (h : fnX12_handAt n S a0 x1 = some r) : rv_Ev mX12_handAt 1 0 [(0, .ref a0), (1, .int x1)] [] S (some (.int r)) S := by
  unfold fnX12_handAt at h
  refine re_aloadn (pc := 0) 0 (by decide +kernel : decode cX12_handAt 0 = .ok (.aload_n 0, 1)) rfl ?_
  obtain ⟨a1_, g2_, h⟩ := rv_b_e h
  refine re_gR (pc := 1) g2_ lfX12_40 rfl (by decide +kernel : decode cX12_handAt 1 = .ok (.getfield 40, 3)) ?_
  refine re_iloadn (pc := 4) 1 (by decide +kernel : decode cX12_handAt 4 = .ok (.iload_n 1, 1)) rfl ?_
  obtain ⟨u3_, g4_, h⟩ := rv_b_e h
  obtain ⟨x6_, g7_, h⟩ := rv_b_e h
  have m5_ := metX2_handOf n S a1_ x1 _ g7_
  refine re_cV (pc := 5) [.int x1] m5_ (rv_okl.k ⟨rfl, rfl⟩) (rv_up.rf _ _) (by decide) (rv_ck_e g4_) ⟨by decide, rfl⟩ (Nat.le_of_ble_eq_true rfl) lVX12_284 rfl (by decide +kernel : decode cX12_handAt 5 = .ok (.invokevirtual 284, 3)) ?_
  cases h
  exact re_iret (fun ty hty => by cases hty; rfl) (by decide +kernel : decode cX12_handAt 8 = .ok (.ireturn, 1))
theorem metX12_handAt (n : Nat) (S : rvS) (a0 : Nat) (x1 : Int32) (r : Int32) (h : fnX12_handAt n S a0 x1 = some r) : rv_Met yX12_handAt mX12_handAt 1 [.ref a0, .int x1] S (some (.int r)) S := rv_Met.of ⟨by decide +kernel, rfl, (fun z => by first | rfl | cases z), rfl⟩ (Nat.le_of_ble_eq_true rfl) rfl (eX12_handAt_in n S a0 x1 r h)
noncomputable def fnX12_again (n : Nat) (S : rvS) (a0 : Nat) (x1 : Int32) : Option (Int32 × rvS) :=
  (rv_ck S 10 a0).bind fun u1_ =>
  (fnX12_isCoin n S a0 x1).bind fun x4_ =>
  if x4_ = 0 then (
    some ((-1 : Int32), S))
  else (
    (rv_gR S 10 a0 6).bind fun a7_ =>
    (rv_gR S 10 a0 1).bind fun a9_ =>
    (rv_ck S 1 a7_).bind fun u11_ =>
    rv_bp (fnX2_goRound n S a7_ a9_ x1) fun x14_ S15_ =>
    some (x14_, S15_))
set_option maxRecDepth 20000 in
set_option maxHeartbeats 4000000 in
theorem eX12_again_in (n : Nat) (S : rvS) (a0 : Nat) (x1 : Int32) (r : Int32) (S' : rvS) (h : fnX12_again n S a0 x1 = some (r, S')) : rv_Ev mX12_again 6 0 [(0, .ref a0), (1, .int x1)] [] S (some (.int r)) S' := by
  unfold fnX12_again at h
  refine re_aloadn (pc := 0) 0 (by decide +kernel : decode cX12_again 0 = .ok (.aload_n 0, 1)) rfl ?_
  refine re_iloadn (pc := 1) 1 (by decide +kernel : decode cX12_again 1 = .ok (.iload_n 1, 1)) rfl ?_
  obtain ⟨u1_, g2_, h⟩ := rv_b_e h
  obtain ⟨x4_, g5_, h⟩ := rv_b_e h
  have m3_ := metX12_isCoin n S a0 x1 _ g5_
  refine re_cV (pc := 2) [.int x1] m3_ (rv_okl.k ⟨rfl, rfl⟩) (rv_up.rf _ _) (by decide) (rv_ck_e g2_) ⟨by decide, rfl⟩ (Nat.le_of_ble_eq_true rfl) lVX12_157 rfl (by decide +kernel : decode cX12_again 2 = .ok (.invokevirtual 157, 3)) ?_
  rcases rv_if_e h with ⟨g6_, h⟩ | ⟨g6_, h⟩
  · refine re_if_eq_t (pc := 5) 23 (by decide +kernel : decode cX12_again 5 = .ok (.ifCond .eq 18, 3)) (by decide) g6_ ?_
    refine re_iconst (pc := 23) (-1 : Int32) (by decide +kernel : decode cX12_again 23 = .ok (.iconst (-1), 1)) (by decide) ?_
    cases h
    exact re_iret (fun ty hty => by cases hty; rfl) (by decide +kernel : decode cX12_again 24 = .ok (.ireturn, 1))
  · refine re_if_eq_f (pc := 5) 23 (by decide +kernel : decode cX12_again 5 = .ok (.ifCond .eq 18, 3)) (by decide) g6_ ?_
    refine re_aloadn (pc := 8) 0 (by decide +kernel : decode cX12_again 8 = .ok (.aload_n 0, 1)) rfl ?_
    obtain ⟨a7_, g8_, h⟩ := rv_b_e h
    refine re_gR (pc := 9) g8_ lfX12_40 rfl (by decide +kernel : decode cX12_again 9 = .ok (.getfield 40, 3)) ?_
    refine re_aloadn (pc := 12) 0 (by decide +kernel : decode cX12_again 12 = .ok (.aload_n 0, 1)) rfl ?_
    obtain ⟨a9_, g10_, h⟩ := rv_b_e h
    refine re_gR (pc := 13) g10_ lfX12_19 rfl (by decide +kernel : decode cX12_again 13 = .ok (.getfield 19, 3)) ?_
    refine re_iloadn (pc := 16) 1 (by decide +kernel : decode cX12_again 16 = .ok (.iload_n 1, 1)) rfl ?_
    obtain ⟨u11_, g12_, h⟩ := rv_b_e h
    obtain ⟨x14_, S15_, g16_, h⟩ := rv_bp_e h
    have m13_ := metX2_goRound n S a7_ a9_ x1 _ _ g16_
    have z17_ : rv_same S S15_ := m13_.sh rfl
    refine re_cV (pc := 17) [.ref a9_, .int x1] m13_ (rv_okl.k z17_) (rv_up.sh z17_) (by decide) (rv_ck_e g12_) ⟨by decide, rfl⟩ (Nat.le_of_ble_eq_true rfl) lVX12_287 rfl (by decide +kernel : decode cX12_again 17 = .ok (.invokevirtual 287, 3)) ?_
    refine re_goto (pc := 20) 24 (by decide +kernel : decode cX12_again 20 = .ok (.goto 4, 3)) (by decide) ?_
    cases h
    exact re_iret (fun ty hty => by cases hty; rfl) (by decide +kernel : decode cX12_again 24 = .ok (.ireturn, 1))
theorem metX12_again (n : Nat) (S : rvS) (a0 : Nat) (x1 : Int32) (r : Int32) (S' : rvS) (h : fnX12_again n S a0 x1 = some (r, S')) : rv_Met yX12_again mX12_again 6 [.ref a0, .int x1] S (some (.int r)) S' := rv_Met.of ⟨by decide +kernel, rfl, (fun z => by first | rfl | cases z), rfl⟩ (Nat.le_of_ble_eq_true rfl) rfl (eX12_again_in n S a0 x1 r S' h)
noncomputable def fnX12_ever (n : Nat) (S : rvS) (a0 : Nat) (x1 : Int32) : Option (Int32 × rvS) :=
  (rv_ck S 10 a0).bind fun u1_ =>
  (fnX12_isCoin n S a0 x1).bind fun x4_ =>
  if x4_ = 0 then (
    some ((-1 : Int32), S))
  else (
    (rv_gR S 10 a0 6).bind fun a7_ =>
    (rv_gR S 10 a0 1).bind fun a9_ =>
    (rv_ck S 1 a7_).bind fun u11_ =>
    rv_bp (fnX2_goesForEver n S a7_ a9_ x1) fun x14_ S15_ =>
    if x14_ = 0 then (
      some ((0 : Int32), S15_))
    else (
      some ((1 : Int32), S15_)))
set_option maxRecDepth 20000 in
set_option maxHeartbeats 4000000 in
theorem eX12_ever_in (n : Nat) (S : rvS) (a0 : Nat) (x1 : Int32) (r : Int32) (S' : rvS) (h : fnX12_ever n S a0 x1 = some (r, S')) : rv_Ev mX12_ever 5 0 [(0, .ref a0), (1, .int x1)] [] S (some (.int r)) S' := by
  unfold fnX12_ever at h
  refine re_aloadn (pc := 0) 0 (by decide +kernel : decode cX12_ever 0 = .ok (.aload_n 0, 1)) rfl ?_
  refine re_iloadn (pc := 1) 1 (by decide +kernel : decode cX12_ever 1 = .ok (.iload_n 1, 1)) rfl ?_
  obtain ⟨u1_, g2_, h⟩ := rv_b_e h
  obtain ⟨x4_, g5_, h⟩ := rv_b_e h
  have m3_ := metX12_isCoin n S a0 x1 _ g5_
  refine re_cV (pc := 2) [.int x1] m3_ (rv_okl.k ⟨rfl, rfl⟩) (rv_up.rf _ _) (by decide) (rv_ck_e g2_) ⟨by decide, rfl⟩ (Nat.le_of_ble_eq_true rfl) lVX12_157 rfl (by decide +kernel : decode cX12_ever 2 = .ok (.invokevirtual 157, 3)) ?_
  rcases rv_if_e h with ⟨g6_, h⟩ | ⟨g6_, h⟩
  · refine re_if_ne_f (pc := 5) 10 (by decide +kernel : decode cX12_ever 5 = .ok (.ifCond .ne 5, 3)) (by decide) g6_ ?_
    refine re_iconst (pc := 8) (-1 : Int32) (by decide +kernel : decode cX12_ever 8 = .ok (.iconst (-1), 1)) (by decide) ?_
    cases h
    exact re_iret (fun ty hty => by cases hty; rfl) (by decide +kernel : decode cX12_ever 9 = .ok (.ireturn, 1))
  · refine re_if_ne_t (pc := 5) 10 (by decide +kernel : decode cX12_ever 5 = .ok (.ifCond .ne 5, 3)) (by decide) g6_ ?_
    refine re_aloadn (pc := 10) 0 (by decide +kernel : decode cX12_ever 10 = .ok (.aload_n 0, 1)) rfl ?_
    obtain ⟨a7_, g8_, h⟩ := rv_b_e h
    refine re_gR (pc := 11) g8_ lfX12_40 rfl (by decide +kernel : decode cX12_ever 11 = .ok (.getfield 40, 3)) ?_
    refine re_aloadn (pc := 14) 0 (by decide +kernel : decode cX12_ever 14 = .ok (.aload_n 0, 1)) rfl ?_
    obtain ⟨a9_, g10_, h⟩ := rv_b_e h
    refine re_gR (pc := 15) g10_ lfX12_19 rfl (by decide +kernel : decode cX12_ever 15 = .ok (.getfield 19, 3)) ?_
    refine re_iloadn (pc := 18) 1 (by decide +kernel : decode cX12_ever 18 = .ok (.iload_n 1, 1)) rfl ?_
    obtain ⟨u11_, g12_, h⟩ := rv_b_e h
    obtain ⟨x14_, S15_, g16_, h⟩ := rv_bp_e h
    have m13_ := metX2_goesForEver n S a7_ a9_ x1 _ _ g16_
    have z17_ : rv_same S S15_ := m13_.sh rfl
    refine re_cV (pc := 19) [.ref a9_, .int x1] m13_ (rv_okl.k z17_) (rv_up.sh z17_) (by decide) (rv_ck_e g12_) ⟨by decide, rfl⟩ (Nat.le_of_ble_eq_true rfl) lVX12_291 rfl (by decide +kernel : decode cX12_ever 19 = .ok (.invokevirtual 291, 3)) ?_
    rcases rv_if_e h with ⟨g18_, h⟩ | ⟨g18_, h⟩
    · refine re_if_eq_t (pc := 22) 29 (by decide +kernel : decode cX12_ever 22 = .ok (.ifCond .eq 7, 3)) (by decide) g18_ ?_
      refine re_iconst (pc := 29) (0 : Int32) (by decide +kernel : decode cX12_ever 29 = .ok (.iconst 0, 1)) (by decide) ?_
      cases h
      exact re_iret (fun ty hty => by cases hty; rfl) (by decide +kernel : decode cX12_ever 30 = .ok (.ireturn, 1))
    · refine re_if_eq_f (pc := 22) 29 (by decide +kernel : decode cX12_ever 22 = .ok (.ifCond .eq 7, 3)) (by decide) g18_ ?_
      refine re_iconst (pc := 25) (1 : Int32) (by decide +kernel : decode cX12_ever 25 = .ok (.iconst 1, 1)) (by decide) ?_
      refine re_goto (pc := 26) 30 (by decide +kernel : decode cX12_ever 26 = .ok (.goto 4, 3)) (by decide) ?_
      cases h
      exact re_iret (fun ty hty => by cases hty; rfl) (by decide +kernel : decode cX12_ever 30 = .ok (.ireturn, 1))
theorem metX12_ever (n : Nat) (S : rvS) (a0 : Nat) (x1 : Int32) (r : Int32) (S' : rvS) (h : fnX12_ever n S a0 x1 = some (r, S')) : rv_Met yX12_ever mX12_ever 5 [.ref a0, .int x1] S (some (.int r)) S' := rv_Met.of ⟨by decide +kernel, rfl, (fun z => by first | rfl | cases z), rfl⟩ (Nat.le_of_ble_eq_true rfl) rfl (eX12_ever_in n S a0 x1 r S' h)
noncomputable def fnX12_isDebt (n : Nat) (S : rvS) (a0 : Nat) (x1 : Int32) : Option Int32 :=
  if x1 < 0 then (
    some (0 : Int32))
  else (
    (rv_gR S 10 a0 1).bind fun a2_ =>
    (rv_gI S 8 a2_ 6).bind fun x4_ =>
    if x4_ ≤ x1 then (
      some (0 : Int32))
    else (
      some (1 : Int32)))
set_option maxRecDepth 20000 in
set_option maxHeartbeats 4000000 in
theorem eX12_isDebt_in (n : Nat) (S : rvS) (a0 : Nat) (x1 : Int32) (r : Int32) (h : fnX12_isDebt n S a0 x1 = some r) : rv_Ev mX12_isDebt 0 0 [(0, .ref a0), (1, .int x1)] [] S (some (.int r)) S := by
  unfold fnX12_isDebt at h
  refine re_iloadn (pc := 0) 1 (by decide +kernel : decode cX12_isDebt 0 = .ok (.iload_n 1, 1)) rfl ?_
  rcases rv_if_e h with ⟨g1_, h⟩ | ⟨g1_, h⟩
  · refine re_if_lt_t (pc := 1) 19 (by decide +kernel : decode cX12_isDebt 1 = .ok (.ifCond .lt 18, 3)) (by decide) g1_ ?_
    refine re_iconst (pc := 19) (0 : Int32) (by decide +kernel : decode cX12_isDebt 19 = .ok (.iconst 0, 1)) (by decide) ?_
    cases h
    exact re_iret (fun ty hty => by cases hty; rfl) (by decide +kernel : decode cX12_isDebt 20 = .ok (.ireturn, 1))
  · refine re_if_lt_f (pc := 1) 19 (by decide +kernel : decode cX12_isDebt 1 = .ok (.ifCond .lt 18, 3)) (by decide) g1_ ?_
    refine re_iloadn (pc := 4) 1 (by decide +kernel : decode cX12_isDebt 4 = .ok (.iload_n 1, 1)) rfl ?_
    refine re_aloadn (pc := 5) 0 (by decide +kernel : decode cX12_isDebt 5 = .ok (.aload_n 0, 1)) rfl ?_
    obtain ⟨a2_, g3_, h⟩ := rv_b_e h
    refine re_gR (pc := 6) g3_ lfX12_19 rfl (by decide +kernel : decode cX12_isDebt 6 = .ok (.getfield 19, 3)) ?_
    obtain ⟨x4_, g5_, h⟩ := rv_b_e h
    refine re_gI (pc := 9) g5_ lfX12_388 rfl (by decide +kernel : decode cX12_isDebt 9 = .ok (.getfield 388, 3)) ?_
    rcases rv_if_e h with ⟨g6_, h⟩ | ⟨g6_, h⟩
    · refine re_icmp_ge_t (pc := 12) 19 (by decide +kernel : decode cX12_isDebt 12 = .ok (.if_icmp .ge 7, 3)) (by decide) g6_ ?_
      refine re_iconst (pc := 19) (0 : Int32) (by decide +kernel : decode cX12_isDebt 19 = .ok (.iconst 0, 1)) (by decide) ?_
      cases h
      exact re_iret (fun ty hty => by cases hty; rfl) (by decide +kernel : decode cX12_isDebt 20 = .ok (.ireturn, 1))
    · refine re_icmp_ge_f (pc := 12) 19 (by decide +kernel : decode cX12_isDebt 12 = .ok (.if_icmp .ge 7, 3)) (by decide) g6_ ?_
      refine re_iconst (pc := 15) (1 : Int32) (by decide +kernel : decode cX12_isDebt 15 = .ok (.iconst 1, 1)) (by decide) ?_
      refine re_goto (pc := 16) 20 (by decide +kernel : decode cX12_isDebt 16 = .ok (.goto 4, 3)) (by decide) ?_
      cases h
      exact re_iret (fun ty hty => by cases hty; rfl) (by decide +kernel : decode cX12_isDebt 20 = .ok (.ireturn, 1))
theorem metX12_isDebt (n : Nat) (S : rvS) (a0 : Nat) (x1 : Int32) (r : Int32) (h : fnX12_isDebt n S a0 x1 = some r) : rv_Met yX12_isDebt mX12_isDebt 0 [.ref a0, .int x1] S (some (.int r)) S := rv_Met.of ⟨by decide +kernel, rfl, (fun z => by first | rfl | cases z), rfl⟩ (Nat.le_of_ble_eq_true rfl) rfl (eX12_isDebt_in n S a0 x1 r h)
noncomputable def fnX12_debt (n : Nat) (S : rvS) (a0 : Nat) (x1 : Int32) (x2 : Int32) : Option Int32 :=
  (rv_ck S 10 a0).bind fun u1_ =>
  (fnX12_isDebt n S a0 x1).bind fun x4_ =>
  if x4_ = 0 then (
    none)
  else (
    if x2 < 0 then (
      none)
    else (
      if x2 ≤ (3 : Int32) then (
        if x2 = 0 then (
          (rv_gR S 10 a0 1).bind fun a10_ =>
          (rv_gR S 8 a10_ 3).bind fun a12_ =>
          (rv_aI S 0 a12_ x1).bind fun x14_ =>
          some x14_)
        else (
          if x2 = 1 then (
            (rv_gR S 10 a0 1).bind fun a17_ =>
            (rv_gR S 8 a17_ 4).bind fun a19_ =>
            (rv_aI S 0 a19_ x1).bind fun x21_ =>
            some x21_)
          else (
            if x2 = 2 then (
              (rv_gR S 10 a0 1).bind fun a24_ =>
              (rv_gR S 8 a24_ 5).bind fun a26_ =>
              (rv_aI S 0 a26_ x1).bind fun x28_ =>
              some x28_)
            else (
              (rv_gR S 10 a0 1).bind fun a30_ =>
              (rv_ck S 8 a30_).bind fun u32_ =>
              (fnX9_isCleared n S a30_ x1).bind fun x35_ =>
              if x35_ = 0 then (
                some (0 : Int32))
              else (
                some (1 : Int32))))))
      else (
        none)))
set_option maxRecDepth 20000 in
set_option maxHeartbeats 4000000 in
theorem eX12_debt_in (n : Nat) (S : rvS) (a0 : Nat) (x1 : Int32) (x2 : Int32) (r : Int32) (h : fnX12_debt n S a0 x1 x2 = some r) : rv_Ev mX12_debt 1 0 [(0, .ref a0), (1, .int x1), (2, .int x2)] [] S (some (.int r)) S := by
  unfold fnX12_debt at h
  refine re_aloadn (pc := 0) 0 (by decide +kernel : decode cX12_debt 0 = .ok (.aload_n 0, 1)) rfl ?_
  refine re_iloadn (pc := 1) 1 (by decide +kernel : decode cX12_debt 1 = .ok (.iload_n 1, 1)) rfl ?_
  obtain ⟨u1_, g2_, h⟩ := rv_b_e h
  obtain ⟨x4_, g5_, h⟩ := rv_b_e h
  have m3_ := metX12_isDebt n S a0 x1 _ g5_
  refine re_cV (pc := 2) [.int x1] m3_ (rv_okl.k ⟨rfl, rfl⟩) (rv_up.rf _ _) (by decide) (rv_ck_e g2_) ⟨by decide, rfl⟩ (Nat.le_of_ble_eq_true rfl) lVX12_295 rfl (by decide +kernel : decode cX12_debt 2 = .ok (.invokevirtual 295, 3)) ?_
  rcases rv_if_e h with ⟨g6_, h⟩ | ⟨g6_, h⟩
  · refine re_if_eq_t (pc := 5) 17 (by decide +kernel : decode cX12_debt 5 = .ok (.ifCond .eq 12, 3)) (by decide) g6_ ?_
    exact absurd h (by simp)
  · refine re_if_eq_f (pc := 5) 17 (by decide +kernel : decode cX12_debt 5 = .ok (.ifCond .eq 12, 3)) (by decide) g6_ ?_
    refine re_iloadn (pc := 8) 2 (by decide +kernel : decode cX12_debt 8 = .ok (.iload_n 2, 1)) rfl ?_
    rcases rv_if_e h with ⟨g7_, h⟩ | ⟨g7_, h⟩
    · refine re_if_lt_t (pc := 9) 17 (by decide +kernel : decode cX12_debt 9 = .ok (.ifCond .lt 8, 3)) (by decide) g7_ ?_
      exact absurd h (by simp)
    · refine re_if_lt_f (pc := 9) 17 (by decide +kernel : decode cX12_debt 9 = .ok (.ifCond .lt 8, 3)) (by decide) g7_ ?_
      refine re_iloadn (pc := 12) 2 (by decide +kernel : decode cX12_debt 12 = .ok (.iload_n 2, 1)) rfl ?_
      refine re_iconst (pc := 13) (3 : Int32) (by decide +kernel : decode cX12_debt 13 = .ok (.iconst 3, 1)) (by decide) ?_
      rcases rv_if_e h with ⟨g8_, h⟩ | ⟨g8_, h⟩
      · refine re_icmp_le_t (pc := 14) 28 (by decide +kernel : decode cX12_debt 14 = .ok (.if_icmp .le 14, 3)) (by decide) g8_ ?_
        refine re_iloadn (pc := 28) 2 (by decide +kernel : decode cX12_debt 28 = .ok (.iload_n 2, 1)) rfl ?_
        rcases rv_if_e h with ⟨g9_, h⟩ | ⟨g9_, h⟩
        · refine re_tabInE (pc := 29) (off := 27) 56 (by decide +kernel : decode cX12_debt 29 = .ok (.tableswitch 57 0 2 #[27, 37, 47], 27)) g9_ (by decide) (by decide) (by decide) (by decide) ?_
          refine re_aloadn (pc := 56) 0 (by decide +kernel : decode cX12_debt 56 = .ok (.aload_n 0, 1)) rfl ?_
          obtain ⟨a10_, g11_, h⟩ := rv_b_e h
          refine re_gR (pc := 57) g11_ lfX12_19 rfl (by decide +kernel : decode cX12_debt 57 = .ok (.getfield 19, 3)) ?_
          obtain ⟨a12_, g13_, h⟩ := rv_b_e h
          refine re_gR (pc := 60) g13_ lfX12_300 rfl (by decide +kernel : decode cX12_debt 60 = .ok (.getfield 300, 3)) ?_
          refine re_iloadn (pc := 63) 1 (by decide +kernel : decode cX12_debt 63 = .ok (.iload_n 1, 1)) rfl ?_
          obtain ⟨x14_, g15_, h⟩ := rv_b_e h
          refine re_aI (pc := 64) g15_ (by decide +kernel : decode cX12_debt 64 = .ok (.iaload, 1)) ?_
          cases h
          exact re_iret (fun ty hty => by cases hty; rfl) (by decide +kernel : decode cX12_debt 65 = .ok (.ireturn, 1))
        · skip
          rcases rv_if_e h with ⟨g16_, h⟩ | ⟨g16_, h⟩
          · refine re_tabInE (pc := 29) (off := 37) 66 (by decide +kernel : decode cX12_debt 29 = .ok (.tableswitch 57 0 2 #[27, 37, 47], 27)) g16_ (by decide) (by decide) (by decide) (by decide) ?_
            refine re_aloadn (pc := 66) 0 (by decide +kernel : decode cX12_debt 66 = .ok (.aload_n 0, 1)) rfl ?_
            obtain ⟨a17_, g18_, h⟩ := rv_b_e h
            refine re_gR (pc := 67) g18_ lfX12_19 rfl (by decide +kernel : decode cX12_debt 67 = .ok (.getfield 19, 3)) ?_
            obtain ⟨a19_, g20_, h⟩ := rv_b_e h
            refine re_gR (pc := 70) g20_ lfX12_303 rfl (by decide +kernel : decode cX12_debt 70 = .ok (.getfield 303, 3)) ?_
            refine re_iloadn (pc := 73) 1 (by decide +kernel : decode cX12_debt 73 = .ok (.iload_n 1, 1)) rfl ?_
            obtain ⟨x21_, g22_, h⟩ := rv_b_e h
            refine re_aI (pc := 74) g22_ (by decide +kernel : decode cX12_debt 74 = .ok (.iaload, 1)) ?_
            cases h
            exact re_iret (fun ty hty => by cases hty; rfl) (by decide +kernel : decode cX12_debt 75 = .ok (.ireturn, 1))
          · skip
            rcases rv_if_e h with ⟨g23_, h⟩ | ⟨g23_, h⟩
            · refine re_tabInE (pc := 29) (off := 47) 76 (by decide +kernel : decode cX12_debt 29 = .ok (.tableswitch 57 0 2 #[27, 37, 47], 27)) g23_ (by decide) (by decide) (by decide) (by decide) ?_
              refine re_aloadn (pc := 76) 0 (by decide +kernel : decode cX12_debt 76 = .ok (.aload_n 0, 1)) rfl ?_
              obtain ⟨a24_, g25_, h⟩ := rv_b_e h
              refine re_gR (pc := 77) g25_ lfX12_19 rfl (by decide +kernel : decode cX12_debt 77 = .ok (.getfield 19, 3)) ?_
              obtain ⟨a26_, g27_, h⟩ := rv_b_e h
              refine re_gR (pc := 80) g27_ lfX12_306 rfl (by decide +kernel : decode cX12_debt 80 = .ok (.getfield 306, 3)) ?_
              refine re_iloadn (pc := 83) 1 (by decide +kernel : decode cX12_debt 83 = .ok (.iload_n 1, 1)) rfl ?_
              obtain ⟨x28_, g29_, h⟩ := rv_b_e h
              refine re_aI (pc := 84) g29_ (by decide +kernel : decode cX12_debt 84 = .ok (.iaload, 1)) ?_
              cases h
              exact re_iret (fun ty hty => by cases hty; rfl) (by decide +kernel : decode cX12_debt 85 = .ok (.ireturn, 1))
            · skip
              refine re_tabOut (pc := 29) (dflt := 57) 86 (by decide +kernel : decode cX12_debt 29 = .ok (.tableswitch 57 0 2 #[27, 37, 47], 27)) (by have z0_ := lv_neT g9_ (a := 0) (by decide); have z1_ := lv_neT g16_ (a := 1) (by decide); have z2_ := lv_neT g23_ (a := 2) (by decide); omega) (by decide) ?_
              refine re_aloadn (pc := 86) 0 (by decide +kernel : decode cX12_debt 86 = .ok (.aload_n 0, 1)) rfl ?_
              obtain ⟨a30_, g31_, h⟩ := rv_b_e h
              refine re_gR (pc := 87) g31_ lfX12_19 rfl (by decide +kernel : decode cX12_debt 87 = .ok (.getfield 19, 3)) ?_
              refine re_iloadn (pc := 90) 1 (by decide +kernel : decode cX12_debt 90 = .ok (.iload_n 1, 1)) rfl ?_
              obtain ⟨u32_, g33_, h⟩ := rv_b_e h
              obtain ⟨x35_, g36_, h⟩ := rv_b_e h
              have m34_ := metX9_isCleared n S a30_ x1 _ g36_
              refine re_cV (pc := 91) [.int x1] m34_ (rv_okl.k ⟨rfl, rfl⟩) (rv_up.rf _ _) (by decide) (rv_ck_e g33_) ⟨by decide, rfl⟩ (Nat.le_of_ble_eq_true rfl) lVX12_309 rfl (by decide +kernel : decode cX12_debt 91 = .ok (.invokevirtual 309, 3)) ?_
              rcases rv_if_e h with ⟨g37_, h⟩ | ⟨g37_, h⟩
              · refine re_if_eq_t (pc := 94) 101 (by decide +kernel : decode cX12_debt 94 = .ok (.ifCond .eq 7, 3)) (by decide) g37_ ?_
                refine re_iconst (pc := 101) (0 : Int32) (by decide +kernel : decode cX12_debt 101 = .ok (.iconst 0, 1)) (by decide) ?_
                cases h
                exact re_iret (fun ty hty => by cases hty; rfl) (by decide +kernel : decode cX12_debt 102 = .ok (.ireturn, 1))
              · refine re_if_eq_f (pc := 94) 101 (by decide +kernel : decode cX12_debt 94 = .ok (.ifCond .eq 7, 3)) (by decide) g37_ ?_
                refine re_iconst (pc := 97) (1 : Int32) (by decide +kernel : decode cX12_debt 97 = .ok (.iconst 1, 1)) (by decide) ?_
                refine re_goto (pc := 98) 102 (by decide +kernel : decode cX12_debt 98 = .ok (.goto 4, 3)) (by decide) ?_
                cases h
                exact re_iret (fun ty hty => by cases hty; rfl) (by decide +kernel : decode cX12_debt 102 = .ok (.ireturn, 1))
      · refine re_icmp_le_f (pc := 14) 28 (by decide +kernel : decode cX12_debt 14 = .ok (.if_icmp .le 14, 3)) (by decide) g8_ ?_
        exact absurd h (by simp)
theorem metX12_debt (n : Nat) (S : rvS) (a0 : Nat) (x1 : Int32) (x2 : Int32) (r : Int32) (h : fnX12_debt n S a0 x1 x2 = some r) : rv_Met yX12_debt mX12_debt 1 [.ref a0, .int x1, .int x2] S (some (.int r)) S := rv_Met.of ⟨by decide +kernel, rfl, (fun z => by first | rfl | cases z), rfl⟩ (Nat.le_of_ble_eq_true rfl) rfl (eX12_debt_in n S a0 x1 x2 r h)
noncomputable def ftX12_debt (n : Nat) (S : rvS) (a0 : Nat) (x1 : Int32) (x2 : Int32) : Option Unit :=
  (rv_ck S 10 a0).bind fun u1_ =>
  (fnX12_isDebt n S a0 x1).bind fun x4_ =>
  if x4_ = 0 then (
    some ())
  else (
    if x2 < 0 then (
      some ())
    else (
      if x2 ≤ (3 : Int32) then (
        none)
      else (
        some ())))
set_option maxRecDepth 20000 in
set_option maxHeartbeats 4000000 in
theorem etX12_debt (n : Nat) (S : rvS) (a0 : Nat) (x1 : Int32) (x2 : Int32) (h : ftX12_debt n S a0 x1 x2 = some ()) : rv_Ev mX12_debt 1 0 [(0, .ref a0), (1, .int x1), (2, .int x2)] [] S (some (.retAddr 17)) S := by
  unfold ftX12_debt at h
  refine re_aloadn (pc := 0) 0 (by decide +kernel : decode cX12_debt 0 = .ok (.aload_n 0, 1)) rfl ?_
  refine re_iloadn (pc := 1) 1 (by decide +kernel : decode cX12_debt 1 = .ok (.iload_n 1, 1)) rfl ?_
  obtain ⟨u1_, g2_, h⟩ := rv_b_e h
  obtain ⟨x4_, g5_, h⟩ := rv_b_e h
  have m3_ := metX12_isDebt n S a0 x1 _ g5_
  refine re_cV (pc := 2) [.int x1] m3_ (rv_okl.k ⟨rfl, rfl⟩) (rv_up.rf _ _) (by decide) (rv_ck_e g2_) ⟨by decide, rfl⟩ (Nat.le_of_ble_eq_true rfl) lVX12_295 rfl (by decide +kernel : decode cX12_debt 2 = .ok (.invokevirtual 295, 3)) ?_
  rcases rv_if_e h with ⟨g6_, h⟩ | ⟨g6_, h⟩
  · refine re_if_eq_t (pc := 5) 17 (by decide +kernel : decode cX12_debt 5 = .ok (.ifCond .eq 12, 3)) (by decide) g6_ ?_
    exact re_thr
  · refine re_if_eq_f (pc := 5) 17 (by decide +kernel : decode cX12_debt 5 = .ok (.ifCond .eq 12, 3)) (by decide) g6_ ?_
    refine re_iloadn (pc := 8) 2 (by decide +kernel : decode cX12_debt 8 = .ok (.iload_n 2, 1)) rfl ?_
    rcases rv_if_e h with ⟨g7_, h⟩ | ⟨g7_, h⟩
    · refine re_if_lt_t (pc := 9) 17 (by decide +kernel : decode cX12_debt 9 = .ok (.ifCond .lt 8, 3)) (by decide) g7_ ?_
      exact re_thr
    · refine re_if_lt_f (pc := 9) 17 (by decide +kernel : decode cX12_debt 9 = .ok (.ifCond .lt 8, 3)) (by decide) g7_ ?_
      refine re_iloadn (pc := 12) 2 (by decide +kernel : decode cX12_debt 12 = .ok (.iload_n 2, 1)) rfl ?_
      refine re_iconst (pc := 13) (3 : Int32) (by decide +kernel : decode cX12_debt 13 = .ok (.iconst 3, 1)) (by decide) ?_
      rcases rv_if_e h with ⟨g8_, h⟩ | ⟨g8_, h⟩
      · refine re_icmp_le_t (pc := 14) 28 (by decide +kernel : decode cX12_debt 14 = .ok (.if_icmp .le 14, 3)) (by decide) g8_ ?_
        exact absurd h (by simp)
      · refine re_icmp_le_f (pc := 14) 28 (by decide +kernel : decode cX12_debt 14 = .ok (.if_icmp .le 14, 3)) (by decide) g8_ ?_
        exact re_thr
noncomputable def fnX12_clear (n : Nat) (S : rvS) (a0 : Nat) (x1 : Int32) : Option (Int32 × rvS) :=
  (rv_ck S 10 a0).bind fun u1_ =>
  (fnX12_isDebt n S a0 x1).bind fun x4_ =>
  if x4_ = 0 then (
    some ((-2 : Int32), S))
  else (
    (rv_gR S 10 a0 1).bind fun a7_ =>
    (rv_ck S 8 a7_).bind fun u9_ =>
    (fnX9_isCleared n S a7_ x1).bind fun x12_ =>
    if x12_ = 0 then (
      (rv_gR S 10 a0 5).bind fun a15_ =>
      (rv_gR S 10 a0 1).bind fun a17_ =>
      (rv_gR S 10 a0 1).bind fun a19_ =>
      (rv_gR S 8 a19_ 1).bind fun a21_ =>
      (rv_ck S 4 a15_).bind fun u23_ =>
      rv_bp (fnX5_payDebt n S a15_ a17_ a21_ x1) fun x26_ S27_ =>
      if x26_ < 0 then (
        some (x26_, S27_))
      else (
        (rv_gR S27_ 10 a0 1).bind fun a31_ =>
        (rv_gI S27_ 8 a31_ 7).bind fun x33_ =>
        (rv_pI S27_ 8 a31_ 7 (x33_ ||| ((1 : Int32) <<< (x1 &&& 31)))).bind fun S35_ =>
        some (x26_, S35_)))
    else (
      some ((-2 : Int32), S)))
set_option maxRecDepth 20000 in
set_option maxHeartbeats 4000000 in
theorem eX12_clear_in (n : Nat) (S : rvS) (a0 : Nat) (x1 : Int32) (r : Int32) (S' : rvS) (h : fnX12_clear n S a0 x1 = some (r, S')) : rv_Ev mX12_clear 5 0 [(0, .ref a0), (1, .int x1)] [] S (some (.int r)) S' := by
  unfold fnX12_clear at h
  refine re_aloadn (pc := 0) 0 (by decide +kernel : decode cX12_clear 0 = .ok (.aload_n 0, 1)) rfl ?_
  refine re_iloadn (pc := 1) 1 (by decide +kernel : decode cX12_clear 1 = .ok (.iload_n 1, 1)) rfl ?_
  obtain ⟨u1_, g2_, h⟩ := rv_b_e h
  obtain ⟨x4_, g5_, h⟩ := rv_b_e h
  have m3_ := metX12_isDebt n S a0 x1 _ g5_
  refine re_cV (pc := 2) [.int x1] m3_ (rv_okl.k ⟨rfl, rfl⟩) (rv_up.rf _ _) (by decide) (rv_ck_e g2_) ⟨by decide, rfl⟩ (Nat.le_of_ble_eq_true rfl) lVX12_295 rfl (by decide +kernel : decode cX12_clear 2 = .ok (.invokevirtual 295, 3)) ?_
  rcases rv_if_e h with ⟨g6_, h⟩ | ⟨g6_, h⟩
  · refine re_if_eq_t (pc := 5) 19 (by decide +kernel : decode cX12_clear 5 = .ok (.ifCond .eq 14, 3)) (by decide) g6_ ?_
    refine re_bipush (pc := 19) (-2 : Int32) (by decide +kernel : decode cX12_clear 19 = .ok (.bipush (-2), 2)) (by decide) ?_
    cases h
    exact re_iret (fun ty hty => by cases hty; rfl) (by decide +kernel : decode cX12_clear 21 = .ok (.ireturn, 1))
  · refine re_if_eq_f (pc := 5) 19 (by decide +kernel : decode cX12_clear 5 = .ok (.ifCond .eq 14, 3)) (by decide) g6_ ?_
    refine re_aloadn (pc := 8) 0 (by decide +kernel : decode cX12_clear 8 = .ok (.aload_n 0, 1)) rfl ?_
    obtain ⟨a7_, g8_, h⟩ := rv_b_e h
    refine re_gR (pc := 9) g8_ lfX12_19 rfl (by decide +kernel : decode cX12_clear 9 = .ok (.getfield 19, 3)) ?_
    refine re_iloadn (pc := 12) 1 (by decide +kernel : decode cX12_clear 12 = .ok (.iload_n 1, 1)) rfl ?_
    obtain ⟨u9_, g10_, h⟩ := rv_b_e h
    obtain ⟨x12_, g13_, h⟩ := rv_b_e h
    have m11_ := metX9_isCleared n S a7_ x1 _ g13_
    refine re_cV (pc := 13) [.int x1] m11_ (rv_okl.k ⟨rfl, rfl⟩) (rv_up.rf _ _) (by decide) (rv_ck_e g10_) ⟨by decide, rfl⟩ (Nat.le_of_ble_eq_true rfl) lVX12_309 rfl (by decide +kernel : decode cX12_clear 13 = .ok (.invokevirtual 309, 3)) ?_
    rcases rv_if_e h with ⟨g14_, h⟩ | ⟨g14_, h⟩
    · refine re_if_eq_t (pc := 16) 22 (by decide +kernel : decode cX12_clear 16 = .ok (.ifCond .eq 6, 3)) (by decide) g14_ ?_
      refine re_aloadn (pc := 22) 0 (by decide +kernel : decode cX12_clear 22 = .ok (.aload_n 0, 1)) rfl ?_
      obtain ⟨a15_, g16_, h⟩ := rv_b_e h
      refine re_gR (pc := 23) g16_ lfX12_33 rfl (by decide +kernel : decode cX12_clear 23 = .ok (.getfield 33, 3)) ?_
      refine re_aloadn (pc := 26) 0 (by decide +kernel : decode cX12_clear 26 = .ok (.aload_n 0, 1)) rfl ?_
      obtain ⟨a17_, g18_, h⟩ := rv_b_e h
      refine re_gR (pc := 27) g18_ lfX12_19 rfl (by decide +kernel : decode cX12_clear 27 = .ok (.getfield 19, 3)) ?_
      refine re_aloadn (pc := 30) 0 (by decide +kernel : decode cX12_clear 30 = .ok (.aload_n 0, 1)) rfl ?_
      obtain ⟨a19_, g20_, h⟩ := rv_b_e h
      refine re_gR (pc := 31) g20_ lfX12_19 rfl (by decide +kernel : decode cX12_clear 31 = .ok (.getfield 19, 3)) ?_
      obtain ⟨a21_, g22_, h⟩ := rv_b_e h
      refine re_gR (pc := 34) g22_ lfX12_138 rfl (by decide +kernel : decode cX12_clear 34 = .ok (.getfield 138, 3)) ?_
      refine re_iloadn (pc := 37) 1 (by decide +kernel : decode cX12_clear 37 = .ok (.iload_n 1, 1)) rfl ?_
      obtain ⟨u23_, g24_, h⟩ := rv_b_e h
      obtain ⟨x26_, S27_, g28_, h⟩ := rv_bp_e h
      have m25_ := metX5_payDebt n S a15_ a17_ a21_ x1 _ _ g28_
      have z29_ : rv_same S S27_ := m25_.sh rfl
      refine re_cV (pc := 38) [.ref a17_, .ref a21_, .int x1] m25_ (rv_okl.k z29_) (rv_up.sh z29_) (by decide) (rv_ck_e g24_) ⟨by decide, rfl⟩ (Nat.le_of_ble_eq_true rfl) lVX12_312 rfl (by decide +kernel : decode cX12_clear 38 = .ok (.invokevirtual 312, 3)) ?_
      refine re_istoren (pc := 41) (lv1 := [(2, .int x26_), (0, .ref a0), (1, .int x1)]) (by decide +kernel : decode cX12_clear 41 = .ok (.istore_n 2, 1)) rfl (by decide) rfl ?_
      refine re_iloadn (pc := 42) 0 (by decide +kernel : decode cX12_clear 42 = .ok (.iload_n 2, 1)) rfl ?_
      rcases rv_if_e h with ⟨g30_, h⟩ | ⟨g30_, h⟩
      · refine re_if_lt_t (pc := 43) 61 (by decide +kernel : decode cX12_clear 43 = .ok (.ifCond .lt 18, 3)) (by decide) g30_ ?_
        refine re_iloadn (pc := 61) 0 (by decide +kernel : decode cX12_clear 61 = .ok (.iload_n 2, 1)) rfl ?_
        cases h
        exact re_iret (fun ty hty => by cases hty; rfl) (by decide +kernel : decode cX12_clear 62 = .ok (.ireturn, 1))
      · refine re_if_lt_f (pc := 43) 61 (by decide +kernel : decode cX12_clear 43 = .ok (.ifCond .lt 18, 3)) (by decide) g30_ ?_
        refine re_aloadn (pc := 46) 1 (by decide +kernel : decode cX12_clear 46 = .ok (.aload_n 0, 1)) rfl ?_
        obtain ⟨a31_, g32_, h⟩ := rv_b_e h
        refine re_gR (pc := 47) g32_ lfX12_19 rfl (by decide +kernel : decode cX12_clear 47 = .ok (.getfield 19, 3)) ?_
        refine re_dup (pc := 50) (by decide +kernel : decode cX12_clear 50 = .ok (.dup, 1)) rfl ?_
        obtain ⟨x33_, g34_, h⟩ := rv_b_e h
        refine re_gI (pc := 51) g34_ lfX12_316 rfl (by decide +kernel : decode cX12_clear 51 = .ok (.getfield 316, 3)) ?_
        refine re_iconst (pc := 54) (1 : Int32) (by decide +kernel : decode cX12_clear 54 = .ok (.iconst 1, 1)) (by decide) ?_
        refine re_iloadn (pc := 55) 2 (by decide +kernel : decode cX12_clear 55 = .ok (.iload_n 1, 1)) rfl ?_
        refine re_ishl (pc := 56) (by decide +kernel : decode cX12_clear 56 = .ok (.ishl, 1)) ?_
        refine re_ior (pc := 57) (by decide +kernel : decode cX12_clear 57 = .ok (.ior, 1)) ?_
        obtain ⟨S35_, g36_, h⟩ := rv_b_e h
        refine re_pI (pc := 58) g36_ lfX12_316 rfl rfl rfl rfl (by decide +kernel : decode cX12_clear 58 = .ok (.putfield 316, 3)) ?_
        refine re_iloadn (pc := 61) 0 (by decide +kernel : decode cX12_clear 61 = .ok (.iload_n 2, 1)) rfl ?_
        cases h
        exact re_iret (fun ty hty => by cases hty; rfl) (by decide +kernel : decode cX12_clear 62 = .ok (.ireturn, 1))
    · refine re_if_eq_f (pc := 16) 22 (by decide +kernel : decode cX12_clear 16 = .ok (.ifCond .eq 6, 3)) (by decide) g14_ ?_
      refine re_bipush (pc := 19) (-2 : Int32) (by decide +kernel : decode cX12_clear 19 = .ok (.bipush (-2), 2)) (by decide) ?_
      cases h
      exact re_iret (fun ty hty => by cases hty; rfl) (by decide +kernel : decode cX12_clear 21 = .ok (.ireturn, 1))
theorem metX12_clear (n : Nat) (S : rvS) (a0 : Nat) (x1 : Int32) (r : Int32) (S' : rvS) (h : fnX12_clear n S a0 x1 = some (r, S')) : rv_Met yX12_clear mX12_clear 5 [.ref a0, .int x1] S (some (.int r)) S' := rv_Met.of ⟨by decide +kernel, rfl, (fun z => by first | rfl | cases z), rfl⟩ (Nat.le_of_ble_eq_true rfl) rfl (eX12_clear_in n S a0 x1 r S' h)
noncomputable def fnX12_orders (n : Nat) (S : rvS) (a0 : Nat) : Option (Int32 × rvS) :=
  (rv_gR S 10 a0 7).bind fun a1_ =>
  (rv_gR S 10 a0 0).bind fun a3_ =>
  (rv_gR S 10 a0 1).bind fun a5_ =>
  (rv_ck S 3 a1_).bind fun u7_ =>
  rv_bp (fnX4_take n S a1_ a3_ a5_) fun x10_ S11_ =>
  (rv_gR S11_ 10 a0 0).bind fun a14_ =>
  (rv_pI S11_ 7 a14_ 1 (0 : Int32)).bind fun S16_ =>
  if x10_ = 0 then (
    some ((-1 : Int32), S16_))
  else (
    (rv_gR S16_ 10 a0 7).bind fun a19_ =>
    (rv_gR S16_ 10 a0 1).bind fun a21_ =>
    (rv_gR S16_ 10 a0 5).bind fun a23_ =>
    (rv_ck S16_ 3 a19_).bind fun u25_ =>
    rv_bp (fnX4_best n S16_ a19_ a21_ a23_) fun x28_ S29_ =>
    some (x28_, S29_))
set_option maxRecDepth 20000 in
set_option maxHeartbeats 4000000 in
theorem eX12_orders_in (n : Nat) (S : rvS) (a0 : Nat) (r : Int32) (S' : rvS) (h : fnX12_orders n S a0 = some (r, S')) : rv_Ev mX12_orders 23 0 [(0, .ref a0)] [] S (some (.int r)) S' := by
  unfold fnX12_orders at h
  refine re_aloadn (pc := 0) 0 (by decide +kernel : decode cX12_orders 0 = .ok (.aload_n 0, 1)) rfl ?_
  obtain ⟨a1_, g2_, h⟩ := rv_b_e h
  refine re_gR (pc := 1) g2_ lfX12_47 rfl (by decide +kernel : decode cX12_orders 1 = .ok (.getfield 47, 3)) ?_
  refine re_aloadn (pc := 4) 0 (by decide +kernel : decode cX12_orders 4 = .ok (.aload_n 0, 1)) rfl ?_
  obtain ⟨a3_, g4_, h⟩ := rv_b_e h
  refine re_gR (pc := 5) g4_ lfX12_10 rfl (by decide +kernel : decode cX12_orders 5 = .ok (.getfield 10, 3)) ?_
  refine re_aloadn (pc := 8) 0 (by decide +kernel : decode cX12_orders 8 = .ok (.aload_n 0, 1)) rfl ?_
  obtain ⟨a5_, g6_, h⟩ := rv_b_e h
  refine re_gR (pc := 9) g6_ lfX12_19 rfl (by decide +kernel : decode cX12_orders 9 = .ok (.getfield 19, 3)) ?_
  obtain ⟨u7_, g8_, h⟩ := rv_b_e h
  obtain ⟨x10_, S11_, g12_, h⟩ := rv_bp_e h
  have m9_ := metX4_take n S a1_ a3_ a5_ _ _ g12_
  have z13_ : rv_same S S11_ := m9_.sh rfl
  refine re_cV (pc := 12) [.ref a3_, .ref a5_] m9_ (rv_okl.k z13_) (rv_up.sh z13_) (by decide) (rv_ck_e g8_) ⟨by decide, rfl⟩ (Nat.le_of_ble_eq_true rfl) lVX12_319 rfl (by decide +kernel : decode cX12_orders 12 = .ok (.invokevirtual 319, 3)) ?_
  refine re_istoren (pc := 15) (lv1 := [(1, .int x10_), (0, .ref a0)]) (by decide +kernel : decode cX12_orders 15 = .ok (.istore_n 1, 1)) rfl (by decide) rfl ?_
  refine re_aloadn (pc := 16) 1 (by decide +kernel : decode cX12_orders 16 = .ok (.aload_n 0, 1)) rfl ?_
  obtain ⟨a14_, g15_, h⟩ := rv_b_e h
  refine re_gR (pc := 17) g15_ lfX12_10 rfl (by decide +kernel : decode cX12_orders 17 = .ok (.getfield 10, 3)) ?_
  refine re_iconst (pc := 20) (0 : Int32) (by decide +kernel : decode cX12_orders 20 = .ok (.iconst 0, 1)) (by decide) ?_
  obtain ⟨S16_, g17_, h⟩ := rv_b_e h
  refine re_pI (pc := 21) g17_ lfX12_69 rfl rfl rfl rfl (by decide +kernel : decode cX12_orders 21 = .ok (.putfield 69, 3)) ?_
  refine re_iloadn (pc := 24) 0 (by decide +kernel : decode cX12_orders 24 = .ok (.iload_n 1, 1)) rfl ?_
  rcases rv_if_e h with ⟨g18_, h⟩ | ⟨g18_, h⟩
  · refine re_if_eq_t (pc := 25) 46 (by decide +kernel : decode cX12_orders 25 = .ok (.ifCond .eq 21, 3)) (by decide) g18_ ?_
    refine re_iconst (pc := 46) (-1 : Int32) (by decide +kernel : decode cX12_orders 46 = .ok (.iconst (-1), 1)) (by decide) ?_
    cases h
    exact re_iret (fun ty hty => by cases hty; rfl) (by decide +kernel : decode cX12_orders 47 = .ok (.ireturn, 1))
  · refine re_if_eq_f (pc := 25) 46 (by decide +kernel : decode cX12_orders 25 = .ok (.ifCond .eq 21, 3)) (by decide) g18_ ?_
    refine re_aloadn (pc := 28) 1 (by decide +kernel : decode cX12_orders 28 = .ok (.aload_n 0, 1)) rfl ?_
    obtain ⟨a19_, g20_, h⟩ := rv_b_e h
    refine re_gR (pc := 29) g20_ lfX12_47 rfl (by decide +kernel : decode cX12_orders 29 = .ok (.getfield 47, 3)) ?_
    refine re_aloadn (pc := 32) 1 (by decide +kernel : decode cX12_orders 32 = .ok (.aload_n 0, 1)) rfl ?_
    obtain ⟨a21_, g22_, h⟩ := rv_b_e h
    refine re_gR (pc := 33) g22_ lfX12_19 rfl (by decide +kernel : decode cX12_orders 33 = .ok (.getfield 19, 3)) ?_
    refine re_aloadn (pc := 36) 1 (by decide +kernel : decode cX12_orders 36 = .ok (.aload_n 0, 1)) rfl ?_
    obtain ⟨a23_, g24_, h⟩ := rv_b_e h
    refine re_gR (pc := 37) g24_ lfX12_33 rfl (by decide +kernel : decode cX12_orders 37 = .ok (.getfield 33, 3)) ?_
    obtain ⟨u25_, g26_, h⟩ := rv_b_e h
    obtain ⟨x28_, S29_, g30_, h⟩ := rv_bp_e h
    have m27_ := metX4_best n S16_ a19_ a21_ a23_ _ _ g30_
    have z31_ : rv_same S16_ S29_ := m27_.sh rfl
    refine re_cV (pc := 40) [.ref a21_, .ref a23_] m27_ (rv_okl.k z31_) (rv_up.sh z31_) (by decide) (rv_ck_e g26_) ⟨by decide, rfl⟩ (Nat.le_of_ble_eq_true rfl) lVX12_323 rfl (by decide +kernel : decode cX12_orders 40 = .ok (.invokevirtual 323, 3)) ?_
    refine re_goto (pc := 43) 47 (by decide +kernel : decode cX12_orders 43 = .ok (.goto 4, 3)) (by decide) ?_
    cases h
    exact re_iret (fun ty hty => by cases hty; rfl) (by decide +kernel : decode cX12_orders 47 = .ok (.ireturn, 1))
theorem metX12_orders (n : Nat) (S : rvS) (a0 : Nat) (r : Int32) (S' : rvS) (h : fnX12_orders n S a0 = some (r, S')) : rv_Met yX12_orders mX12_orders 23 [.ref a0] S (some (.int r)) S' := rv_Met.of ⟨by decide +kernel, rfl, (fun z => by first | rfl | cases z), rfl⟩ (Nat.le_of_ble_eq_true rfl) rfl (eX12_orders_in n S a0 r S' h)
noncomputable def fnX12_orderAt (n : Nat) (S : rvS) (a0 : Nat) (x1 : Int32) : Option Int32 :=
  (rv_gR S 10 a0 7).bind fun a1_ =>
  (rv_ck S 3 a1_).bind fun u3_ =>
  (fnX4_debtAt n S a1_ x1).bind fun x6_ =>
  some x6_
set_option maxRecDepth 20000 in
set_option maxHeartbeats 4000000 in
theorem eX12_orderAt_in (n : Nat) (S : rvS) (a0 : Nat) (x1 : Int32) (r : Int32) (h : fnX12_orderAt n S a0 x1 = some r) : rv_Ev mX12_orderAt 1 0 [(0, .ref a0), (1, .int x1)] [] S (some (.int r)) S := by
  unfold fnX12_orderAt at h
  refine re_aloadn (pc := 0) 0 (by decide +kernel : decode cX12_orderAt 0 = .ok (.aload_n 0, 1)) rfl ?_
  obtain ⟨a1_, g2_, h⟩ := rv_b_e h
  refine re_gR (pc := 1) g2_ lfX12_47 rfl (by decide +kernel : decode cX12_orderAt 1 = .ok (.getfield 47, 3)) ?_
  refine re_iloadn (pc := 4) 1 (by decide +kernel : decode cX12_orderAt 4 = .ok (.iload_n 1, 1)) rfl ?_
  obtain ⟨u3_, g4_, h⟩ := rv_b_e h
  obtain ⟨x6_, g7_, h⟩ := rv_b_e h
  have m5_ := metX4_debtAt n S a1_ x1 _ g7_
  refine re_cV (pc := 5) [.int x1] m5_ (rv_okl.k ⟨rfl, rfl⟩) (rv_up.rf _ _) (by decide) (rv_ck_e g4_) ⟨by decide, rfl⟩ (Nat.le_of_ble_eq_true rfl) lVX12_327 rfl (by decide +kernel : decode cX12_orderAt 5 = .ok (.invokevirtual 327, 3)) ?_
  cases h
  exact re_iret (fun ty hty => by cases hty; rfl) (by decide +kernel : decode cX12_orderAt 8 = .ok (.ireturn, 1))
theorem metX12_orderAt (n : Nat) (S : rvS) (a0 : Nat) (x1 : Int32) (r : Int32) (h : fnX12_orderAt n S a0 x1 = some r) : rv_Met yX12_orderAt mX12_orderAt 1 [.ref a0, .int x1] S (some (.int r)) S := rv_Met.of ⟨by decide +kernel, rfl, (fun z => by first | rfl | cases z), rfl⟩ (Nat.le_of_ble_eq_true rfl) rfl (eX12_orderAt_in n S a0 x1 r h)
noncomputable def fnX12_ways (n : Nat) (S : rvS) (a0 : Nat) (x1 : Int32) (x2 : Int32) (x3 : Int32) : Option (Int32 × rvS) :=
  (rv_ck S 10 a0).bind fun u1_ =>
  (fnX12_isCoin n S a0 x1).bind fun x4_ =>
  if x4_ = 0 then (
    some ((-1 : Int32), S))
  else (
    (rv_ck S 10 a0).bind fun u7_ =>
    (fnX12_isWho n S a0 x2).bind fun x10_ =>
    if x10_ = 0 then (
      some ((-1 : Int32), S))
    else (
      if x3 < (1 : Int32) then (
        some ((-1 : Int32), S))
      else (
        if x3 ≤ (5 : Int32) then (
          (rv_gR S 10 a0 6).bind fun a15_ =>
          (rv_gR S 10 a0 1).bind fun a17_ =>
          (rv_ck S 1 a15_).bind fun u19_ =>
          rv_bp (fnX2_countWays n S a15_ a17_ x1 x2 x3) fun x22_ S23_ =>
          some (x22_, S23_))
        else (
          some ((-1 : Int32), S)))))
set_option maxRecDepth 20000 in
set_option maxHeartbeats 4000000 in
theorem eX12_ways_in (n : Nat) (S : rvS) (a0 : Nat) (x1 : Int32) (x2 : Int32) (x3 : Int32) (r : Int32) (S' : rvS) (h : fnX12_ways n S a0 x1 x2 x3 = some (r, S')) : rv_Ev mX12_ways 21 0 [(0, .ref a0), (1, .int x1), (2, .int x2), (3, .int x3)] [] S (some (.int r)) S' := by
  unfold fnX12_ways at h
  refine re_aloadn (pc := 0) 0 (by decide +kernel : decode cX12_ways 0 = .ok (.aload_n 0, 1)) rfl ?_
  refine re_iloadn (pc := 1) 1 (by decide +kernel : decode cX12_ways 1 = .ok (.iload_n 1, 1)) rfl ?_
  obtain ⟨u1_, g2_, h⟩ := rv_b_e h
  obtain ⟨x4_, g5_, h⟩ := rv_b_e h
  have m3_ := metX12_isCoin n S a0 x1 _ g5_
  refine re_cV (pc := 2) [.int x1] m3_ (rv_okl.k ⟨rfl, rfl⟩) (rv_up.rf _ _) (by decide) (rv_ck_e g2_) ⟨by decide, rfl⟩ (Nat.le_of_ble_eq_true rfl) lVX12_157 rfl (by decide +kernel : decode cX12_ways 2 = .ok (.invokevirtual 157, 3)) ?_
  rcases rv_if_e h with ⟨g6_, h⟩ | ⟨g6_, h⟩
  · refine re_if_eq_t (pc := 5) 26 (by decide +kernel : decode cX12_ways 5 = .ok (.ifCond .eq 21, 3)) (by decide) g6_ ?_
    refine re_iconst (pc := 26) (-1 : Int32) (by decide +kernel : decode cX12_ways 26 = .ok (.iconst (-1), 1)) (by decide) ?_
    cases h
    exact re_iret (fun ty hty => by cases hty; rfl) (by decide +kernel : decode cX12_ways 27 = .ok (.ireturn, 1))
  · refine re_if_eq_f (pc := 5) 26 (by decide +kernel : decode cX12_ways 5 = .ok (.ifCond .eq 21, 3)) (by decide) g6_ ?_
    refine re_aloadn (pc := 8) 0 (by decide +kernel : decode cX12_ways 8 = .ok (.aload_n 0, 1)) rfl ?_
    refine re_iloadn (pc := 9) 2 (by decide +kernel : decode cX12_ways 9 = .ok (.iload_n 2, 1)) rfl ?_
    obtain ⟨u7_, g8_, h⟩ := rv_b_e h
    obtain ⟨x10_, g11_, h⟩ := rv_b_e h
    have m9_ := metX12_isWho n S a0 x2 _ g11_
    refine re_cV (pc := 10) [.int x2] m9_ (rv_okl.k ⟨rfl, rfl⟩) (rv_up.rf _ _) (by decide) (rv_ck_e g8_) ⟨by decide, rfl⟩ (Nat.le_of_ble_eq_true rfl) lVX12_104 rfl (by decide +kernel : decode cX12_ways 10 = .ok (.invokevirtual 104, 3)) ?_
    rcases rv_if_e h with ⟨g12_, h⟩ | ⟨g12_, h⟩
    · refine re_if_eq_t (pc := 13) 26 (by decide +kernel : decode cX12_ways 13 = .ok (.ifCond .eq 13, 3)) (by decide) g12_ ?_
      refine re_iconst (pc := 26) (-1 : Int32) (by decide +kernel : decode cX12_ways 26 = .ok (.iconst (-1), 1)) (by decide) ?_
      cases h
      exact re_iret (fun ty hty => by cases hty; rfl) (by decide +kernel : decode cX12_ways 27 = .ok (.ireturn, 1))
    · refine re_if_eq_f (pc := 13) 26 (by decide +kernel : decode cX12_ways 13 = .ok (.ifCond .eq 13, 3)) (by decide) g12_ ?_
      refine re_iloadn (pc := 16) 3 (by decide +kernel : decode cX12_ways 16 = .ok (.iload_n 3, 1)) rfl ?_
      refine re_iconst (pc := 17) (1 : Int32) (by decide +kernel : decode cX12_ways 17 = .ok (.iconst 1, 1)) (by decide) ?_
      rcases rv_if_e h with ⟨g13_, h⟩ | ⟨g13_, h⟩
      · refine re_icmp_lt_t (pc := 18) 26 (by decide +kernel : decode cX12_ways 18 = .ok (.if_icmp .lt 8, 3)) (by decide) g13_ ?_
        refine re_iconst (pc := 26) (-1 : Int32) (by decide +kernel : decode cX12_ways 26 = .ok (.iconst (-1), 1)) (by decide) ?_
        cases h
        exact re_iret (fun ty hty => by cases hty; rfl) (by decide +kernel : decode cX12_ways 27 = .ok (.ireturn, 1))
      · refine re_icmp_lt_f (pc := 18) 26 (by decide +kernel : decode cX12_ways 18 = .ok (.if_icmp .lt 8, 3)) (by decide) g13_ ?_
        refine re_iloadn (pc := 21) 3 (by decide +kernel : decode cX12_ways 21 = .ok (.iload_n 3, 1)) rfl ?_
        refine re_iconst (pc := 22) (5 : Int32) (by decide +kernel : decode cX12_ways 22 = .ok (.iconst 5, 1)) (by decide) ?_
        rcases rv_if_e h with ⟨g14_, h⟩ | ⟨g14_, h⟩
        · refine re_icmp_le_t (pc := 23) 28 (by decide +kernel : decode cX12_ways 23 = .ok (.if_icmp .le 5, 3)) (by decide) g14_ ?_
          refine re_aloadn (pc := 28) 0 (by decide +kernel : decode cX12_ways 28 = .ok (.aload_n 0, 1)) rfl ?_
          obtain ⟨a15_, g16_, h⟩ := rv_b_e h
          refine re_gR (pc := 29) g16_ lfX12_40 rfl (by decide +kernel : decode cX12_ways 29 = .ok (.getfield 40, 3)) ?_
          refine re_aloadn (pc := 32) 0 (by decide +kernel : decode cX12_ways 32 = .ok (.aload_n 0, 1)) rfl ?_
          obtain ⟨a17_, g18_, h⟩ := rv_b_e h
          refine re_gR (pc := 33) g18_ lfX12_19 rfl (by decide +kernel : decode cX12_ways 33 = .ok (.getfield 19, 3)) ?_
          refine re_iloadn (pc := 36) 1 (by decide +kernel : decode cX12_ways 36 = .ok (.iload_n 1, 1)) rfl ?_
          refine re_iloadn (pc := 37) 2 (by decide +kernel : decode cX12_ways 37 = .ok (.iload_n 2, 1)) rfl ?_
          refine re_iloadn (pc := 38) 3 (by decide +kernel : decode cX12_ways 38 = .ok (.iload_n 3, 1)) rfl ?_
          obtain ⟨u19_, g20_, h⟩ := rv_b_e h
          obtain ⟨x22_, S23_, g24_, h⟩ := rv_bp_e h
          have m21_ := metX2_countWays n S a15_ a17_ x1 x2 x3 _ _ g24_
          have z25_ : rv_same S S23_ := m21_.sh rfl
          refine re_cV (pc := 39) [.ref a17_, .int x1, .int x2, .int x3] m21_ (rv_okl.k z25_) (rv_up.sh z25_) (by decide) (rv_ck_e g20_) ⟨by decide, rfl⟩ (Nat.le_of_ble_eq_true rfl) lVX12_330 rfl (by decide +kernel : decode cX12_ways 39 = .ok (.invokevirtual 330, 3)) ?_
          cases h
          exact re_iret (fun ty hty => by cases hty; rfl) (by decide +kernel : decode cX12_ways 42 = .ok (.ireturn, 1))
        · refine re_icmp_le_f (pc := 23) 28 (by decide +kernel : decode cX12_ways 23 = .ok (.if_icmp .le 5, 3)) (by decide) g14_ ?_
          refine re_iconst (pc := 26) (-1 : Int32) (by decide +kernel : decode cX12_ways 26 = .ok (.iconst (-1), 1)) (by decide) ?_
          cases h
          exact re_iret (fun ty hty => by cases hty; rfl) (by decide +kernel : decode cX12_ways 27 = .ok (.ireturn, 1))
theorem metX12_ways (n : Nat) (S : rvS) (a0 : Nat) (x1 : Int32) (x2 : Int32) (x3 : Int32) (r : Int32) (S' : rvS) (h : fnX12_ways n S a0 x1 x2 x3 = some (r, S')) : rv_Met yX12_ways mX12_ways 21 [.ref a0, .int x1, .int x2, .int x3] S (some (.int r)) S' := rv_Met.of ⟨by decide +kernel, rfl, (fun z => by first | rfl | cases z), rfl⟩ (Nat.le_of_ble_eq_true rfl) rfl (eX12_ways_in n S a0 x1 x2 x3 r S' h)
noncomputable def fnX12_had (n : Nat) (S : rvS) (a0 : Nat) (x1 : Int32) : Option Int32 :=
  (rv_gR S 10 a0 6).bind fun a1_ =>
  (rv_ck S 1 a1_).bind fun u3_ =>
  (fnX2_hadBy n S a1_ x1).bind fun x6_ =>
  some x6_
set_option maxRecDepth 20000 in
set_option maxHeartbeats 4000000 in
theorem eX12_had_in (n : Nat) (S : rvS) (a0 : Nat) (x1 : Int32) (r : Int32) (h : fnX12_had n S a0 x1 = some r) : rv_Ev mX12_had 1 0 [(0, .ref a0), (1, .int x1)] [] S (some (.int r)) S := by
  unfold fnX12_had at h
  refine re_aloadn (pc := 0) 0 (by decide +kernel : decode cX12_had 0 = .ok (.aload_n 0, 1)) rfl ?_
  obtain ⟨a1_, g2_, h⟩ := rv_b_e h
  refine re_gR (pc := 1) g2_ lfX12_40 rfl (by decide +kernel : decode cX12_had 1 = .ok (.getfield 40, 3)) ?_
  refine re_iloadn (pc := 4) 1 (by decide +kernel : decode cX12_had 4 = .ok (.iload_n 1, 1)) rfl ?_
  obtain ⟨u3_, g4_, h⟩ := rv_b_e h
  obtain ⟨x6_, g7_, h⟩ := rv_b_e h
  have m5_ := metX2_hadBy n S a1_ x1 _ g7_
  refine re_cV (pc := 5) [.int x1] m5_ (rv_okl.k ⟨rfl, rfl⟩) (rv_up.rf _ _) (by decide) (rv_ck_e g4_) ⟨by decide, rfl⟩ (Nat.le_of_ble_eq_true rfl) lVX12_334 rfl (by decide +kernel : decode cX12_had 5 = .ok (.invokevirtual 334, 3)) ?_
  cases h
  exact re_iret (fun ty hty => by cases hty; rfl) (by decide +kernel : decode cX12_had 8 = .ok (.ireturn, 1))
theorem metX12_had (n : Nat) (S : rvS) (a0 : Nat) (x1 : Int32) (r : Int32) (h : fnX12_had n S a0 x1 = some r) : rv_Met yX12_had mX12_had 1 [.ref a0, .int x1] S (some (.int r)) S := rv_Met.of ⟨by decide +kernel, rfl, (fun z => by first | rfl | cases z), rfl⟩ (Nat.le_of_ble_eq_true rfl) rfl (eX12_had_in n S a0 x1 r h)
noncomputable def cX12_days_55 (n : Nat) : Nat → rvS → Nat → Int32 → Int32 → Option (Int32 × rvS)
  | 0, _, _, _, _ => none
  | k + 1, S, a0, x1, x3 =>
    if x1 ≤ x3 then (
      (rv_gR S 10 a0 8).bind fun a2_ =>
      (rv_gI S 2 a2_ 1).bind fun x4_ =>
      some (x4_, S))
    else (
      (rv_gR S 10 a0 8).bind fun a6_ =>
      (rv_gR S 10 a0 1).bind fun a8_ =>
      (rv_ck S 2 a6_).bind fun u10_ =>
      (fnX3_passDay n S a6_ a8_).bind fun S13_ =>
      rv_lt (x3 + (1)) fun x16_ =>
      cX12_days_55 n k S13_ a0 x1 x16_)
set_option maxRecDepth 20000 in
set_option maxHeartbeats 4000000 in
theorem eX12_days_55 (n : Nat) : ∀ (k : Nat) (S : rvS) (a0 : Nat) (x1 : Int32) (x3 : Int32) (r : Int32) (S' : rvS), cX12_days_55 n k S a0 x1 x3 = some (r, S') → rv_Ev mX12_days 6 55 [(0, .ref a0), (1, .int x1), (3, .int x3)] [] S (some (.int r)) S' := by
  intro k
  induction k with
  | zero => intro S a0 x1 x3 r S' h; exact absurd h (by simp [cX12_days_55])
  | succ k ih =>
    intro S a0 x1 x3 r S' h
    unfold cX12_days_55 at h
    refine re_iloadn (pc := 55) 2 (by decide +kernel : decode cX12_days 55 = .ok (.iload_n 3, 1)) rfl ?_
    refine re_iloadn (pc := 56) 1 (by decide +kernel : decode cX12_days 56 = .ok (.iload_n 1, 1)) rfl ?_
    rcases rv_if_e h with ⟨g1_, h⟩ | ⟨g1_, h⟩
    · refine re_icmp_ge_t (pc := 57) 77 (by decide +kernel : decode cX12_days 57 = .ok (.if_icmp .ge 20, 3)) (by decide) g1_ ?_
      refine re_aloadn (pc := 77) 0 (by decide +kernel : decode cX12_days 77 = .ok (.aload_n 0, 1)) rfl ?_
      obtain ⟨a2_, g3_, h⟩ := rv_b_e h
      refine re_gR (pc := 78) g3_ lfX12_54 rfl (by decide +kernel : decode cX12_days 78 = .ok (.getfield 54, 3)) ?_
      obtain ⟨x4_, g5_, h⟩ := rv_b_e h
      refine re_gI (pc := 81) g5_ lfX12_347 rfl (by decide +kernel : decode cX12_days 81 = .ok (.getfield 347, 3)) ?_
      cases h
      exact re_iret (fun ty hty => by cases hty; rfl) (by decide +kernel : decode cX12_days 84 = .ok (.ireturn, 1))
    · refine re_icmp_ge_f (pc := 57) 77 (by decide +kernel : decode cX12_days 57 = .ok (.if_icmp .ge 20, 3)) (by decide) g1_ ?_
      refine re_aloadn (pc := 60) 0 (by decide +kernel : decode cX12_days 60 = .ok (.aload_n 0, 1)) rfl ?_
      obtain ⟨a6_, g7_, h⟩ := rv_b_e h
      refine re_gR (pc := 61) g7_ lfX12_54 rfl (by decide +kernel : decode cX12_days 61 = .ok (.getfield 54, 3)) ?_
      refine re_aloadn (pc := 64) 0 (by decide +kernel : decode cX12_days 64 = .ok (.aload_n 0, 1)) rfl ?_
      obtain ⟨a8_, g9_, h⟩ := rv_b_e h
      refine re_gR (pc := 65) g9_ lfX12_19 rfl (by decide +kernel : decode cX12_days 65 = .ok (.getfield 19, 3)) ?_
      obtain ⟨u10_, g11_, h⟩ := rv_b_e h
      obtain ⟨S13_, g14_, h⟩ := rv_b_e h
      have m12_ := metX3_passDay n S a6_ a8_ _ g14_
      have z15_ : rv_same S S13_ := m12_.sh rfl
      refine re_cV (pc := 68) [.ref a8_] m12_ (rv_okl.k z15_) (rv_up.sh z15_) (by decide) (rv_ck_e g11_) ⟨by decide, rfl⟩ (Nat.le_of_ble_eq_true rfl) lVX12_344 rfl (by decide +kernel : decode cX12_days 68 = .ok (.invokevirtual 344, 3)) ?_
      obtain ⟨x16_, g17_, h⟩ := rv_lt_e h
      refine re_iinc (pc := 71) 2 x16_ (lv1 := [(3, .int x16_), (0, .ref a0), (1, .int x1)]) (by decide +kernel : decode cX12_days 71 = .ok (.iinc 3 1, 3)) rfl g17_ (by decide) rfl ?_
      refine re_goto (pc := 74) 55 (by decide +kernel : decode cX12_days 74 = .ok (.goto (-19), 3)) (by decide) ?_
      refine re_sub [1, 2, 0] (lv1 := [(0, .ref a0), (1, .int x1), (3, .int x16_)]) rfl ?_
      exact ih S13_ a0 x1 x16_ _ _ h
noncomputable def fnX12_days (n : Nat) (S : rvS) (a0 : Nat) (x1 : Int32) (x2 : Int32) : Option (Int32 × rvS) :=
  if x1 < (1 : Int32) then (
    some ((-1 : Int32), S))
  else (
    if (400 : Int32) < x1 then (
      some ((-1 : Int32), S))
    else (
      (rv_gR S 10 a0 1).bind fun a3_ =>
      (rv_gR S 8 a3_ 0).bind fun a5_ =>
      (rv_gI S 0 a5_ 0).bind fun x7_ =>
      if x7_ = 0 then (
        some ((-1 : Int32), S))
      else (
        (rv_gR S 10 a0 1).bind fun a10_ =>
        (rv_gR S 8 a10_ 1).bind fun a12_ =>
        (rv_gI S 5 a12_ 0).bind fun x14_ =>
        if x14_ = 0 then (
          some ((-1 : Int32), S))
        else (
          (rv_pI S 10 a0 10 (1 : Int32)).bind fun S17_ =>
          (rv_gR S17_ 10 a0 8).bind fun a19_ =>
          (rv_ck S17_ 2 a19_).bind fun u21_ =>
          (fnX3_begin n S17_ a19_ x2).bind fun S24_ =>
          cX12_days_55 n n S24_ a0 x1 (0 : Int32)))))
set_option maxRecDepth 20000 in
set_option maxHeartbeats 4000000 in
theorem eX12_days_in (n : Nat) (S : rvS) (a0 : Nat) (x1 : Int32) (x2 : Int32) (r : Int32) (S' : rvS) (h : fnX12_days n S a0 x1 x2 = some (r, S')) : rv_Ev mX12_days 6 0 [(0, .ref a0), (1, .int x1), (2, .int x2)] [] S (some (.int r)) S' := by
  unfold fnX12_days at h
  refine re_iloadn (pc := 0) 1 (by decide +kernel : decode cX12_days 0 = .ok (.iload_n 1, 1)) rfl ?_
  refine re_iconst (pc := 1) (1 : Int32) (by decide +kernel : decode cX12_days 1 = .ok (.iconst 1, 1)) (by decide) ?_
  rcases rv_if_e h with ⟨g1_, h⟩ | ⟨g1_, h⟩
  · refine re_icmp_lt_t (pc := 2) 38 (by decide +kernel : decode cX12_days 2 = .ok (.if_icmp .lt 36, 3)) (by decide) g1_ ?_
    refine re_iconst (pc := 38) (-1 : Int32) (by decide +kernel : decode cX12_days 38 = .ok (.iconst (-1), 1)) (by decide) ?_
    cases h
    exact re_iret (fun ty hty => by cases hty; rfl) (by decide +kernel : decode cX12_days 39 = .ok (.ireturn, 1))
  · refine re_icmp_lt_f (pc := 2) 38 (by decide +kernel : decode cX12_days 2 = .ok (.if_icmp .lt 36, 3)) (by decide) g1_ ?_
    refine re_iloadn (pc := 5) 1 (by decide +kernel : decode cX12_days 5 = .ok (.iload_n 1, 1)) rfl ?_
    refine re_sipush (pc := 6) (400 : Int32) (by decide +kernel : decode cX12_days 6 = .ok (.sipush 400, 3)) (by decide) ?_
    rcases rv_if_e h with ⟨g2_, h⟩ | ⟨g2_, h⟩
    · refine re_icmp_gt_t (pc := 9) 38 (by decide +kernel : decode cX12_days 9 = .ok (.if_icmp .gt 29, 3)) (by decide) g2_ ?_
      refine re_iconst (pc := 38) (-1 : Int32) (by decide +kernel : decode cX12_days 38 = .ok (.iconst (-1), 1)) (by decide) ?_
      cases h
      exact re_iret (fun ty hty => by cases hty; rfl) (by decide +kernel : decode cX12_days 39 = .ok (.ireturn, 1))
    · refine re_icmp_gt_f (pc := 9) 38 (by decide +kernel : decode cX12_days 9 = .ok (.if_icmp .gt 29, 3)) (by decide) g2_ ?_
      refine re_aloadn (pc := 12) 0 (by decide +kernel : decode cX12_days 12 = .ok (.aload_n 0, 1)) rfl ?_
      obtain ⟨a3_, g4_, h⟩ := rv_b_e h
      refine re_gR (pc := 13) g4_ lfX12_19 rfl (by decide +kernel : decode cX12_days 13 = .ok (.getfield 19, 3)) ?_
      obtain ⟨a5_, g6_, h⟩ := rv_b_e h
      refine re_gR (pc := 16) g6_ lfX12_115 rfl (by decide +kernel : decode cX12_days 16 = .ok (.getfield 115, 3)) ?_
      obtain ⟨x7_, g8_, h⟩ := rv_b_e h
      refine re_gI (pc := 19) g8_ lfX12_234 rfl (by decide +kernel : decode cX12_days 19 = .ok (.getfield 234, 3)) ?_
      rcases rv_if_e h with ⟨g9_, h⟩ | ⟨g9_, h⟩
      · refine re_if_eq_t (pc := 22) 38 (by decide +kernel : decode cX12_days 22 = .ok (.ifCond .eq 16, 3)) (by decide) g9_ ?_
        refine re_iconst (pc := 38) (-1 : Int32) (by decide +kernel : decode cX12_days 38 = .ok (.iconst (-1), 1)) (by decide) ?_
        cases h
        exact re_iret (fun ty hty => by cases hty; rfl) (by decide +kernel : decode cX12_days 39 = .ok (.ireturn, 1))
      · refine re_if_eq_f (pc := 22) 38 (by decide +kernel : decode cX12_days 22 = .ok (.ifCond .eq 16, 3)) (by decide) g9_ ?_
        refine re_aloadn (pc := 25) 0 (by decide +kernel : decode cX12_days 25 = .ok (.aload_n 0, 1)) rfl ?_
        obtain ⟨a10_, g11_, h⟩ := rv_b_e h
        refine re_gR (pc := 26) g11_ lfX12_19 rfl (by decide +kernel : decode cX12_days 26 = .ok (.getfield 19, 3)) ?_
        obtain ⟨a12_, g13_, h⟩ := rv_b_e h
        refine re_gR (pc := 29) g13_ lfX12_138 rfl (by decide +kernel : decode cX12_days 29 = .ok (.getfield 138, 3)) ?_
        obtain ⟨x14_, g15_, h⟩ := rv_b_e h
        refine re_gI (pc := 32) g15_ lfX12_216 rfl (by decide +kernel : decode cX12_days 32 = .ok (.getfield 216, 3)) ?_
        rcases rv_if_e h with ⟨g16_, h⟩ | ⟨g16_, h⟩
        · refine re_if_ne_f (pc := 35) 40 (by decide +kernel : decode cX12_days 35 = .ok (.ifCond .ne 5, 3)) (by decide) g16_ ?_
          refine re_iconst (pc := 38) (-1 : Int32) (by decide +kernel : decode cX12_days 38 = .ok (.iconst (-1), 1)) (by decide) ?_
          cases h
          exact re_iret (fun ty hty => by cases hty; rfl) (by decide +kernel : decode cX12_days 39 = .ok (.ireturn, 1))
        · refine re_if_ne_t (pc := 35) 40 (by decide +kernel : decode cX12_days 35 = .ok (.ifCond .ne 5, 3)) (by decide) g16_ ?_
          refine re_aloadn (pc := 40) 0 (by decide +kernel : decode cX12_days 40 = .ok (.aload_n 0, 1)) rfl ?_
          refine re_iconst (pc := 41) (1 : Int32) (by decide +kernel : decode cX12_days 41 = .ok (.iconst 1, 1)) (by decide) ?_
          obtain ⟨S17_, g18_, h⟩ := rv_b_e h
          refine re_pI (pc := 42) g18_ lfX12_337 rfl rfl rfl rfl (by decide +kernel : decode cX12_days 42 = .ok (.putfield 337, 3)) ?_
          refine re_aloadn (pc := 45) 0 (by decide +kernel : decode cX12_days 45 = .ok (.aload_n 0, 1)) rfl ?_
          obtain ⟨a19_, g20_, h⟩ := rv_b_e h
          refine re_gR (pc := 46) g20_ lfX12_54 rfl (by decide +kernel : decode cX12_days 46 = .ok (.getfield 54, 3)) ?_
          refine re_iloadn (pc := 49) 2 (by decide +kernel : decode cX12_days 49 = .ok (.iload_n 2, 1)) rfl ?_
          obtain ⟨u21_, g22_, h⟩ := rv_b_e h
          obtain ⟨S24_, g25_, h⟩ := rv_b_e h
          have m23_ := metX3_begin n S17_ a19_ x2 _ g25_
          have z26_ : rv_same S17_ S24_ := m23_.sh rfl
          refine re_cV (pc := 50) [.int x2] m23_ (rv_okl.k z26_) (rv_up.sh z26_) (by decide) (rv_ck_e g22_) ⟨by decide, rfl⟩ (Nat.le_of_ble_eq_true rfl) lVX12_341 rfl (by decide +kernel : decode cX12_days 50 = .ok (.invokevirtual 341, 3)) ?_
          refine re_iconst (pc := 53) (0 : Int32) (by decide +kernel : decode cX12_days 53 = .ok (.iconst 0, 1)) (by decide) ?_
          refine re_istoren (pc := 54) (lv1 := [(3, .int (0 : Int32)), (0, .ref a0), (1, .int x1), (2, .int x2)]) (by decide +kernel : decode cX12_days 54 = .ok (.istore_n 3, 1)) rfl (by decide) rfl ?_
          refine re_sub [1, 2, 0] (lv1 := [(0, .ref a0), (1, .int x1), (3, .int (0 : Int32))]) rfl ?_
          exact eX12_days_55 n n S24_ a0 x1 (0 : Int32) _ _ h
theorem metX12_days (n : Nat) (S : rvS) (a0 : Nat) (x1 : Int32) (x2 : Int32) (r : Int32) (S' : rvS) (h : fnX12_days n S a0 x1 x2 = some (r, S')) : rv_Met yX12_days mX12_days 6 [.ref a0, .int x1, .int x2] S (some (.int r)) S' := rv_Met.of ⟨by decide +kernel, rfl, (fun z => by first | rfl | cases z), rfl⟩ (Nat.le_of_ble_eq_true rfl) rfl (eX12_days_in n S a0 x1 x2 r S' h)
noncomputable def fnX12_drawn (n : Nat) (S : rvS) (a0 : Nat) (x1 : Int32) : Option Int32 :=
  (rv_gI S 10 a0 10).bind fun x1_ =>
  if x1_ = 0 then (
    some (-1 : Int32))
  else (
    if x1 = 0 then (
      (rv_gR S 10 a0 8).bind fun a5_ =>
      (rv_gI S 2 a5_ 2).bind fun x7_ =>
      some x7_)
    else (
      if x1 = 1 then (
        (rv_gR S 10 a0 8).bind fun a10_ =>
        (rv_gI S 2 a10_ 3).bind fun x12_ =>
        some x12_)
      else (
        if x1 = 2 then (
          (rv_gR S 10 a0 8).bind fun a15_ =>
          (rv_gI S 2 a15_ 4).bind fun x17_ =>
          some x17_)
        else (
          some (-1 : Int32)))))
set_option maxRecDepth 20000 in
set_option maxHeartbeats 4000000 in
theorem eX12_drawn_in (n : Nat) (S : rvS) (a0 : Nat) (x1 : Int32) (r : Int32) (h : fnX12_drawn n S a0 x1 = some r) : rv_Ev mX12_drawn 0 0 [(0, .ref a0), (1, .int x1)] [] S (some (.int r)) S := by
  unfold fnX12_drawn at h
  refine re_aloadn (pc := 0) 0 (by decide +kernel : decode cX12_drawn 0 = .ok (.aload_n 0, 1)) rfl ?_
  obtain ⟨x1_, g2_, h⟩ := rv_b_e h
  refine re_gI (pc := 1) g2_ lfX12_337 rfl (by decide +kernel : decode cX12_drawn 1 = .ok (.getfield 337, 3)) ?_
  rcases rv_if_e h with ⟨g3_, h⟩ | ⟨g3_, h⟩
  · refine re_if_ne_f (pc := 4) 9 (by decide +kernel : decode cX12_drawn 4 = .ok (.ifCond .ne 5, 3)) (by decide) g3_ ?_
    refine re_iconst (pc := 7) (-1 : Int32) (by decide +kernel : decode cX12_drawn 7 = .ok (.iconst (-1), 1)) (by decide) ?_
    cases h
    exact re_iret (fun ty hty => by cases hty; rfl) (by decide +kernel : decode cX12_drawn 8 = .ok (.ireturn, 1))
  · refine re_if_ne_t (pc := 4) 9 (by decide +kernel : decode cX12_drawn 4 = .ok (.ifCond .ne 5, 3)) (by decide) g3_ ?_
    refine re_iloadn (pc := 9) 1 (by decide +kernel : decode cX12_drawn 9 = .ok (.iload_n 1, 1)) rfl ?_
    rcases rv_if_e h with ⟨g4_, h⟩ | ⟨g4_, h⟩
    · refine re_tabInE (pc := 10) (off := 26) 36 (by decide +kernel : decode cX12_drawn 10 = .ok (.tableswitch 50 0 2 #[26, 34, 42], 26)) g4_ (by decide) (by decide) (by decide) (by decide) ?_
      refine re_aloadn (pc := 36) 0 (by decide +kernel : decode cX12_drawn 36 = .ok (.aload_n 0, 1)) rfl ?_
      obtain ⟨a5_, g6_, h⟩ := rv_b_e h
      refine re_gR (pc := 37) g6_ lfX12_54 rfl (by decide +kernel : decode cX12_drawn 37 = .ok (.getfield 54, 3)) ?_
      obtain ⟨x7_, g8_, h⟩ := rv_b_e h
      refine re_gI (pc := 40) g8_ lfX12_350 rfl (by decide +kernel : decode cX12_drawn 40 = .ok (.getfield 350, 3)) ?_
      cases h
      exact re_iret (fun ty hty => by cases hty; rfl) (by decide +kernel : decode cX12_drawn 43 = .ok (.ireturn, 1))
    · skip
      rcases rv_if_e h with ⟨g9_, h⟩ | ⟨g9_, h⟩
      · refine re_tabInE (pc := 10) (off := 34) 44 (by decide +kernel : decode cX12_drawn 10 = .ok (.tableswitch 50 0 2 #[26, 34, 42], 26)) g9_ (by decide) (by decide) (by decide) (by decide) ?_
        refine re_aloadn (pc := 44) 0 (by decide +kernel : decode cX12_drawn 44 = .ok (.aload_n 0, 1)) rfl ?_
        obtain ⟨a10_, g11_, h⟩ := rv_b_e h
        refine re_gR (pc := 45) g11_ lfX12_54 rfl (by decide +kernel : decode cX12_drawn 45 = .ok (.getfield 54, 3)) ?_
        obtain ⟨x12_, g13_, h⟩ := rv_b_e h
        refine re_gI (pc := 48) g13_ lfX12_353 rfl (by decide +kernel : decode cX12_drawn 48 = .ok (.getfield 353, 3)) ?_
        cases h
        exact re_iret (fun ty hty => by cases hty; rfl) (by decide +kernel : decode cX12_drawn 51 = .ok (.ireturn, 1))
      · skip
        rcases rv_if_e h with ⟨g14_, h⟩ | ⟨g14_, h⟩
        · refine re_tabInE (pc := 10) (off := 42) 52 (by decide +kernel : decode cX12_drawn 10 = .ok (.tableswitch 50 0 2 #[26, 34, 42], 26)) g14_ (by decide) (by decide) (by decide) (by decide) ?_
          refine re_aloadn (pc := 52) 0 (by decide +kernel : decode cX12_drawn 52 = .ok (.aload_n 0, 1)) rfl ?_
          obtain ⟨a15_, g16_, h⟩ := rv_b_e h
          refine re_gR (pc := 53) g16_ lfX12_54 rfl (by decide +kernel : decode cX12_drawn 53 = .ok (.getfield 54, 3)) ?_
          obtain ⟨x17_, g18_, h⟩ := rv_b_e h
          refine re_gI (pc := 56) g18_ lfX12_356 rfl (by decide +kernel : decode cX12_drawn 56 = .ok (.getfield 356, 3)) ?_
          cases h
          exact re_iret (fun ty hty => by cases hty; rfl) (by decide +kernel : decode cX12_drawn 59 = .ok (.ireturn, 1))
        · skip
          refine re_tabOut (pc := 10) (dflt := 50) 60 (by decide +kernel : decode cX12_drawn 10 = .ok (.tableswitch 50 0 2 #[26, 34, 42], 26)) (by have z0_ := lv_neT g4_ (a := 0) (by decide); have z1_ := lv_neT g9_ (a := 1) (by decide); have z2_ := lv_neT g14_ (a := 2) (by decide); omega) (by decide) ?_
          refine re_iconst (pc := 60) (-1 : Int32) (by decide +kernel : decode cX12_drawn 60 = .ok (.iconst (-1), 1)) (by decide) ?_
          cases h
          exact re_iret (fun ty hty => by cases hty; rfl) (by decide +kernel : decode cX12_drawn 61 = .ok (.ireturn, 1))
theorem metX12_drawn (n : Nat) (S : rvS) (a0 : Nat) (x1 : Int32) (r : Int32) (h : fnX12_drawn n S a0 x1 = some r) : rv_Met yX12_drawn mX12_drawn 0 [.ref a0, .int x1] S (some (.int r)) S := rv_Met.of ⟨by decide +kernel, rfl, (fun z => by first | rfl | cases z), rfl⟩ (Nat.le_of_ble_eq_true rfl) rfl (eX12_drawn_in n S a0 x1 r h)
noncomputable def cX12_trade_84 (n : Nat) : Nat → rvS → Nat → Int32 → Int32 → Option (Int32 × rvS)
  | 0, _, _, _, _ => none
  | k + 1, S, a0, x2, x4 =>
    if x2 ≤ x4 then (
      (rv_gR S 10 a0 9).bind fun a2_ =>
      (rv_gI S 2 a2_ 1).bind fun x4_ =>
      some (x4_, S))
    else (
      (rv_gR S 10 a0 9).bind fun a6_ =>
      (rv_gR S 10 a0 2).bind fun a8_ =>
      (rv_ck S 2 a6_).bind fun u10_ =>
      rv_bp (fnX3_drawPayment n S a6_ a8_) fun x13_ S14_ =>
      rv_lt (x4 + (1)) fun x17_ =>
      cX12_trade_84 n k S14_ a0 x2 x17_)
set_option maxRecDepth 20000 in
set_option maxHeartbeats 4000000 in
theorem eX12_trade_84 (n : Nat) : ∀ (k : Nat) (S : rvS) (a0 : Nat) (x2 : Int32) (x4 : Int32) (r : Int32) (S' : rvS), cX12_trade_84 n k S a0 x2 x4 = some (r, S') → rv_Ev mX12_trade 5 84 [(0, .ref a0), (2, .int x2), (4, .int x4)] [] S (some (.int r)) S' := by
  intro k
  induction k with
  | zero => intro S a0 x2 x4 r S' h; exact absurd h (by simp [cX12_trade_84])
  | succ k ih =>
    intro S a0 x2 x4 r S' h
    unfold cX12_trade_84 at h
    refine re_iload (pc := 84) 2 (by decide +kernel : decode cX12_trade 84 = .ok (.iload 4, 2)) rfl ?_
    refine re_iloadn (pc := 86) 1 (by decide +kernel : decode cX12_trade 86 = .ok (.iload_n 2, 1)) rfl ?_
    rcases rv_if_e h with ⟨g1_, h⟩ | ⟨g1_, h⟩
    · refine re_icmp_ge_t (pc := 87) 108 (by decide +kernel : decode cX12_trade 87 = .ok (.if_icmp .ge 21, 3)) (by decide) g1_ ?_
      refine re_aloadn (pc := 108) 0 (by decide +kernel : decode cX12_trade 108 = .ok (.aload_n 0, 1)) rfl ?_
      obtain ⟨a2_, g3_, h⟩ := rv_b_e h
      refine re_gR (pc := 109) g3_ lfX12_58 rfl (by decide +kernel : decode cX12_trade 109 = .ok (.getfield 58, 3)) ?_
      obtain ⟨x4_, g5_, h⟩ := rv_b_e h
      refine re_gI (pc := 112) g5_ lfX12_347 rfl (by decide +kernel : decode cX12_trade 112 = .ok (.getfield 347, 3)) ?_
      cases h
      exact re_iret (fun ty hty => by cases hty; rfl) (by decide +kernel : decode cX12_trade 115 = .ok (.ireturn, 1))
    · refine re_icmp_ge_f (pc := 87) 108 (by decide +kernel : decode cX12_trade 87 = .ok (.if_icmp .ge 21, 3)) (by decide) g1_ ?_
      refine re_aloadn (pc := 90) 0 (by decide +kernel : decode cX12_trade 90 = .ok (.aload_n 0, 1)) rfl ?_
      obtain ⟨a6_, g7_, h⟩ := rv_b_e h
      refine re_gR (pc := 91) g7_ lfX12_58 rfl (by decide +kernel : decode cX12_trade 91 = .ok (.getfield 58, 3)) ?_
      refine re_aloadn (pc := 94) 0 (by decide +kernel : decode cX12_trade 94 = .ok (.aload_n 0, 1)) rfl ?_
      obtain ⟨a8_, g9_, h⟩ := rv_b_e h
      refine re_gR (pc := 95) g9_ lfX12_23 rfl (by decide +kernel : decode cX12_trade 95 = .ok (.getfield 23, 3)) ?_
      obtain ⟨u10_, g11_, h⟩ := rv_b_e h
      obtain ⟨x13_, S14_, g15_, h⟩ := rv_bp_e h
      have m12_ := metX3_drawPayment n S a6_ a8_ _ _ g15_
      have z16_ : rv_same S S14_ := m12_.sh rfl
      refine re_cV (pc := 98) [.ref a8_] m12_ (rv_okl.k z16_) (rv_up.sh z16_) (by decide) (rv_ck_e g11_) ⟨by decide, rfl⟩ (Nat.le_of_ble_eq_true rfl) lVX12_362 rfl (by decide +kernel : decode cX12_trade 98 = .ok (.invokevirtual 362, 3)) ?_
      refine re_pop (pc := 101) (by decide +kernel : decode cX12_trade 101 = .ok (.pop, 1)) rfl ?_
      obtain ⟨x17_, g18_, h⟩ := rv_lt_e h
      refine re_iinc (pc := 102) 2 x17_ (lv1 := [(4, .int x17_), (0, .ref a0), (2, .int x2)]) (by decide +kernel : decode cX12_trade 102 = .ok (.iinc 4 1, 3)) rfl g18_ (by decide) rfl ?_
      refine re_goto (pc := 105) 84 (by decide +kernel : decode cX12_trade 105 = .ok (.goto (-21), 3)) (by decide) ?_
      refine re_sub [1, 2, 0] (lv1 := [(0, .ref a0), (2, .int x2), (4, .int x17_)]) rfl ?_
      exact ih S14_ a0 x2 x17_ _ _ h
noncomputable def fnX12_trade (n : Nat) (S : rvS) (a0 : Nat) (x1 : Int32) (x2 : Int32) (x3 : Int32) : Option (Int32 × rvS) :=
  if x1 < 0 then (
    some ((-1 : Int32), S))
  else (
    if (3 : Int32) < x1 then (
      some ((-1 : Int32), S))
    else (
      if x2 < (1 : Int32) then (
        some ((-1 : Int32), S))
      else (
        if x2 ≤ (400 : Int32) then (
          (rv_gR S 10 a0 1).bind fun a5_ =>
          (rv_gR S 8 a5_ 0).bind fun a7_ =>
          (rv_gI S 0 a7_ 0).bind fun x9_ =>
          if x9_ = 0 then (
            some ((-1 : Int32), S))
          else (
            (rv_gR S 10 a0 1).bind fun a12_ =>
            (rv_gR S 8 a12_ 1).bind fun a14_ =>
            (rv_gI S 5 a14_ 0).bind fun x16_ =>
            if x16_ = 0 then (
              some ((-1 : Int32), S))
            else (
              (rv_gR S 10 a0 2).bind fun a19_ =>
              (rv_gR S 10 a0 1).bind fun a21_ =>
              (rv_ck S 8 a19_).bind fun u23_ =>
              (fnX9_copyFrom n S a19_ a21_).bind fun S26_ =>
              (rv_gR S26_ 10 a0 2).bind fun a29_ =>
              (rv_gR S26_ 8 a29_ 1).bind fun a31_ =>
              (rv_ck S26_ 5 a31_).bind fun u33_ =>
              (fnX6_shorten n S26_ a31_ x1).bind fun S36_ =>
              (rv_gR S36_ 10 a0 9).bind fun a39_ =>
              (rv_ck S36_ 2 a39_).bind fun u41_ =>
              (fnX3_begin n S36_ a39_ x3).bind fun S44_ =>
              cX12_trade_84 n n S44_ a0 x2 (0 : Int32))))
        else (
          some ((-1 : Int32), S)))))
set_option maxRecDepth 20000 in
set_option maxHeartbeats 4000000 in
theorem eX12_trade_in (n : Nat) (S : rvS) (a0 : Nat) (x1 : Int32) (x2 : Int32) (x3 : Int32) (r : Int32) (S' : rvS) (h : fnX12_trade n S a0 x1 x2 x3 = some (r, S')) : rv_Ev mX12_trade 5 0 [(0, .ref a0), (1, .int x1), (2, .int x2), (3, .int x3)] [] S (some (.int r)) S' := by
  unfold fnX12_trade at h
  refine re_iloadn (pc := 0) 1 (by decide +kernel : decode cX12_trade 0 = .ok (.iload_n 1, 1)) rfl ?_
  rcases rv_if_e h with ⟨g1_, h⟩ | ⟨g1_, h⟩
  · refine re_if_lt_t (pc := 1) 21 (by decide +kernel : decode cX12_trade 1 = .ok (.ifCond .lt 20, 3)) (by decide) g1_ ?_
    refine re_iconst (pc := 21) (-1 : Int32) (by decide +kernel : decode cX12_trade 21 = .ok (.iconst (-1), 1)) (by decide) ?_
    cases h
    exact re_iret (fun ty hty => by cases hty; rfl) (by decide +kernel : decode cX12_trade 22 = .ok (.ireturn, 1))
  · refine re_if_lt_f (pc := 1) 21 (by decide +kernel : decode cX12_trade 1 = .ok (.ifCond .lt 20, 3)) (by decide) g1_ ?_
    refine re_iloadn (pc := 4) 1 (by decide +kernel : decode cX12_trade 4 = .ok (.iload_n 1, 1)) rfl ?_
    refine re_iconst (pc := 5) (3 : Int32) (by decide +kernel : decode cX12_trade 5 = .ok (.iconst 3, 1)) (by decide) ?_
    rcases rv_if_e h with ⟨g2_, h⟩ | ⟨g2_, h⟩
    · refine re_icmp_gt_t (pc := 6) 21 (by decide +kernel : decode cX12_trade 6 = .ok (.if_icmp .gt 15, 3)) (by decide) g2_ ?_
      refine re_iconst (pc := 21) (-1 : Int32) (by decide +kernel : decode cX12_trade 21 = .ok (.iconst (-1), 1)) (by decide) ?_
      cases h
      exact re_iret (fun ty hty => by cases hty; rfl) (by decide +kernel : decode cX12_trade 22 = .ok (.ireturn, 1))
    · refine re_icmp_gt_f (pc := 6) 21 (by decide +kernel : decode cX12_trade 6 = .ok (.if_icmp .gt 15, 3)) (by decide) g2_ ?_
      refine re_iloadn (pc := 9) 2 (by decide +kernel : decode cX12_trade 9 = .ok (.iload_n 2, 1)) rfl ?_
      refine re_iconst (pc := 10) (1 : Int32) (by decide +kernel : decode cX12_trade 10 = .ok (.iconst 1, 1)) (by decide) ?_
      rcases rv_if_e h with ⟨g3_, h⟩ | ⟨g3_, h⟩
      · refine re_icmp_lt_t (pc := 11) 21 (by decide +kernel : decode cX12_trade 11 = .ok (.if_icmp .lt 10, 3)) (by decide) g3_ ?_
        refine re_iconst (pc := 21) (-1 : Int32) (by decide +kernel : decode cX12_trade 21 = .ok (.iconst (-1), 1)) (by decide) ?_
        cases h
        exact re_iret (fun ty hty => by cases hty; rfl) (by decide +kernel : decode cX12_trade 22 = .ok (.ireturn, 1))
      · refine re_icmp_lt_f (pc := 11) 21 (by decide +kernel : decode cX12_trade 11 = .ok (.if_icmp .lt 10, 3)) (by decide) g3_ ?_
        refine re_iloadn (pc := 14) 2 (by decide +kernel : decode cX12_trade 14 = .ok (.iload_n 2, 1)) rfl ?_
        refine re_sipush (pc := 15) (400 : Int32) (by decide +kernel : decode cX12_trade 15 = .ok (.sipush 400, 3)) (by decide) ?_
        rcases rv_if_e h with ⟨g4_, h⟩ | ⟨g4_, h⟩
        · refine re_icmp_le_t (pc := 18) 23 (by decide +kernel : decode cX12_trade 18 = .ok (.if_icmp .le 5, 3)) (by decide) g4_ ?_
          refine re_aloadn (pc := 23) 0 (by decide +kernel : decode cX12_trade 23 = .ok (.aload_n 0, 1)) rfl ?_
          obtain ⟨a5_, g6_, h⟩ := rv_b_e h
          refine re_gR (pc := 24) g6_ lfX12_19 rfl (by decide +kernel : decode cX12_trade 24 = .ok (.getfield 19, 3)) ?_
          obtain ⟨a7_, g8_, h⟩ := rv_b_e h
          refine re_gR (pc := 27) g8_ lfX12_115 rfl (by decide +kernel : decode cX12_trade 27 = .ok (.getfield 115, 3)) ?_
          obtain ⟨x9_, g10_, h⟩ := rv_b_e h
          refine re_gI (pc := 30) g10_ lfX12_234 rfl (by decide +kernel : decode cX12_trade 30 = .ok (.getfield 234, 3)) ?_
          rcases rv_if_e h with ⟨g11_, h⟩ | ⟨g11_, h⟩
          · refine re_if_eq_t (pc := 33) 49 (by decide +kernel : decode cX12_trade 33 = .ok (.ifCond .eq 16, 3)) (by decide) g11_ ?_
            refine re_iconst (pc := 49) (-1 : Int32) (by decide +kernel : decode cX12_trade 49 = .ok (.iconst (-1), 1)) (by decide) ?_
            cases h
            exact re_iret (fun ty hty => by cases hty; rfl) (by decide +kernel : decode cX12_trade 50 = .ok (.ireturn, 1))
          · refine re_if_eq_f (pc := 33) 49 (by decide +kernel : decode cX12_trade 33 = .ok (.ifCond .eq 16, 3)) (by decide) g11_ ?_
            refine re_aloadn (pc := 36) 0 (by decide +kernel : decode cX12_trade 36 = .ok (.aload_n 0, 1)) rfl ?_
            obtain ⟨a12_, g13_, h⟩ := rv_b_e h
            refine re_gR (pc := 37) g13_ lfX12_19 rfl (by decide +kernel : decode cX12_trade 37 = .ok (.getfield 19, 3)) ?_
            obtain ⟨a14_, g15_, h⟩ := rv_b_e h
            refine re_gR (pc := 40) g15_ lfX12_138 rfl (by decide +kernel : decode cX12_trade 40 = .ok (.getfield 138, 3)) ?_
            obtain ⟨x16_, g17_, h⟩ := rv_b_e h
            refine re_gI (pc := 43) g17_ lfX12_216 rfl (by decide +kernel : decode cX12_trade 43 = .ok (.getfield 216, 3)) ?_
            rcases rv_if_e h with ⟨g18_, h⟩ | ⟨g18_, h⟩
            · refine re_if_ne_f (pc := 46) 51 (by decide +kernel : decode cX12_trade 46 = .ok (.ifCond .ne 5, 3)) (by decide) g18_ ?_
              refine re_iconst (pc := 49) (-1 : Int32) (by decide +kernel : decode cX12_trade 49 = .ok (.iconst (-1), 1)) (by decide) ?_
              cases h
              exact re_iret (fun ty hty => by cases hty; rfl) (by decide +kernel : decode cX12_trade 50 = .ok (.ireturn, 1))
            · refine re_if_ne_t (pc := 46) 51 (by decide +kernel : decode cX12_trade 46 = .ok (.ifCond .ne 5, 3)) (by decide) g18_ ?_
              refine re_aloadn (pc := 51) 0 (by decide +kernel : decode cX12_trade 51 = .ok (.aload_n 0, 1)) rfl ?_
              obtain ⟨a19_, g20_, h⟩ := rv_b_e h
              refine re_gR (pc := 52) g20_ lfX12_23 rfl (by decide +kernel : decode cX12_trade 52 = .ok (.getfield 23, 3)) ?_
              refine re_aloadn (pc := 55) 0 (by decide +kernel : decode cX12_trade 55 = .ok (.aload_n 0, 1)) rfl ?_
              obtain ⟨a21_, g22_, h⟩ := rv_b_e h
              refine re_gR (pc := 56) g22_ lfX12_19 rfl (by decide +kernel : decode cX12_trade 56 = .ok (.getfield 19, 3)) ?_
              obtain ⟨u23_, g24_, h⟩ := rv_b_e h
              obtain ⟨S26_, g27_, h⟩ := rv_b_e h
              have m25_ := metX9_copyFrom n S a19_ a21_ _ g27_
              have z28_ : rv_same S S26_ := m25_.sh rfl
              refine re_cV (pc := 59) [.ref a21_] m25_ (rv_okl.k z28_) (rv_up.sh z28_) (by decide) (rv_ck_e g24_) ⟨by decide, rfl⟩ (Nat.le_of_ble_eq_true rfl) lVX12_84 rfl (by decide +kernel : decode cX12_trade 59 = .ok (.invokevirtual 84, 3)) ?_
              refine re_aloadn (pc := 62) 0 (by decide +kernel : decode cX12_trade 62 = .ok (.aload_n 0, 1)) rfl ?_
              obtain ⟨a29_, g30_, h⟩ := rv_b_e h
              refine re_gR (pc := 63) g30_ lfX12_23 rfl (by decide +kernel : decode cX12_trade 63 = .ok (.getfield 23, 3)) ?_
              obtain ⟨a31_, g32_, h⟩ := rv_b_e h
              refine re_gR (pc := 66) g32_ lfX12_138 rfl (by decide +kernel : decode cX12_trade 66 = .ok (.getfield 138, 3)) ?_
              refine re_iloadn (pc := 69) 1 (by decide +kernel : decode cX12_trade 69 = .ok (.iload_n 1, 1)) rfl ?_
              obtain ⟨u33_, g34_, h⟩ := rv_b_e h
              obtain ⟨S36_, g37_, h⟩ := rv_b_e h
              have m35_ := metX6_shorten n S26_ a31_ x1 _ g37_
              have z38_ : rv_same S26_ S36_ := m35_.sh rfl
              refine re_cV (pc := 70) [.int x1] m35_ (rv_okl.k z38_) (rv_up.sh z38_) (by decide) (rv_ck_e g34_) ⟨by decide, rfl⟩ (Nat.le_of_ble_eq_true rfl) lVX12_359 rfl (by decide +kernel : decode cX12_trade 70 = .ok (.invokevirtual 359, 3)) ?_
              refine re_aloadn (pc := 73) 0 (by decide +kernel : decode cX12_trade 73 = .ok (.aload_n 0, 1)) rfl ?_
              obtain ⟨a39_, g40_, h⟩ := rv_b_e h
              refine re_gR (pc := 74) g40_ lfX12_58 rfl (by decide +kernel : decode cX12_trade 74 = .ok (.getfield 58, 3)) ?_
              refine re_iloadn (pc := 77) 3 (by decide +kernel : decode cX12_trade 77 = .ok (.iload_n 3, 1)) rfl ?_
              obtain ⟨u41_, g42_, h⟩ := rv_b_e h
              obtain ⟨S44_, g45_, h⟩ := rv_b_e h
              have m43_ := metX3_begin n S36_ a39_ x3 _ g45_
              have z46_ : rv_same S36_ S44_ := m43_.sh rfl
              refine re_cV (pc := 78) [.int x3] m43_ (rv_okl.k z46_) (rv_up.sh z46_) (by decide) (rv_ck_e g42_) ⟨by decide, rfl⟩ (Nat.le_of_ble_eq_true rfl) lVX12_341 rfl (by decide +kernel : decode cX12_trade 78 = .ok (.invokevirtual 341, 3)) ?_
              refine re_iconst (pc := 81) (0 : Int32) (by decide +kernel : decode cX12_trade 81 = .ok (.iconst 0, 1)) (by decide) ?_
              refine re_istore (pc := 82) (lv1 := [(4, .int (0 : Int32)), (0, .ref a0), (1, .int x1), (2, .int x2), (3, .int x3)]) (by decide +kernel : decode cX12_trade 82 = .ok (.istore 4, 2)) (by decide) rfl ?_
              refine re_sub [1, 3, 0] (lv1 := [(0, .ref a0), (2, .int x2), (4, .int (0 : Int32))]) rfl ?_
              exact eX12_trade_84 n n S44_ a0 x2 (0 : Int32) _ _ h
        · refine re_icmp_le_f (pc := 18) 23 (by decide +kernel : decode cX12_trade 18 = .ok (.if_icmp .le 5, 3)) (by decide) g4_ ?_
          refine re_iconst (pc := 21) (-1 : Int32) (by decide +kernel : decode cX12_trade 21 = .ok (.iconst (-1), 1)) (by decide) ?_
          cases h
          exact re_iret (fun ty hty => by cases hty; rfl) (by decide +kernel : decode cX12_trade 22 = .ok (.ireturn, 1))
theorem metX12_trade (n : Nat) (S : rvS) (a0 : Nat) (x1 : Int32) (x2 : Int32) (x3 : Int32) (r : Int32) (S' : rvS) (h : fnX12_trade n S a0 x1 x2 x3 = some (r, S')) : rv_Met yX12_trade mX12_trade 5 [.ref a0, .int x1, .int x2, .int x3] S (some (.int r)) S' := rv_Met.of ⟨by decide +kernel, rfl, (fun z => by first | rfl | cases z), rfl⟩ (Nat.le_of_ble_eq_true rfl) rfl (eX12_trade_in n S a0 x1 x2 x3 r S' h)
noncomputable def cX12_sentence_53 (n : Nat) (S : rvS) (a0 : Nat) (x1 : Int32) : Option (Int32 × rvS) :=
  (rv_gR S 10 a0 2).bind fun a1_ =>
  (rv_gR S 8 a1_ 2).bind fun a3_ =>
  (rv_gI S 6 a3_ 5).bind fun x5_ =>
  (rv_ck S 10 a0).bind fun u7_ =>
  rv_bp (fnX12_closeTape n S a0 x1 x5_) fun x10_ S11_ =>
  some (x10_, S11_)
set_option maxRecDepth 20000 in
set_option maxHeartbeats 4000000 in
theorem eX12_sentence_53 (n : Nat) (S : rvS) (a0 : Nat) (x1 : Int32) (r : Int32) (S' : rvS) (h : cX12_sentence_53 n S a0 x1 = some (r, S')) : rv_Ev mX12_sentence 70 53 [(0, .ref a0), (1, .int x1)] [] S (some (.int r)) S' := by
  unfold cX12_sentence_53 at h
  refine re_aloadn (pc := 53) 0 (by decide +kernel : decode cX12_sentence 53 = .ok (.aload_n 0, 1)) rfl ?_
  refine re_iloadn (pc := 54) 1 (by decide +kernel : decode cX12_sentence 54 = .ok (.iload_n 1, 1)) rfl ?_
  refine re_aloadn (pc := 55) 0 (by decide +kernel : decode cX12_sentence 55 = .ok (.aload_n 0, 1)) rfl ?_
  obtain ⟨a1_, g2_, h⟩ := rv_b_e h
  refine re_gR (pc := 56) g2_ lfX12_23 rfl (by decide +kernel : decode cX12_sentence 56 = .ok (.getfield 23, 3)) ?_
  obtain ⟨a3_, g4_, h⟩ := rv_b_e h
  refine re_gR (pc := 59) g4_ lfX12_366 rfl (by decide +kernel : decode cX12_sentence 59 = .ok (.getfield 366, 3)) ?_
  obtain ⟨x5_, g6_, h⟩ := rv_b_e h
  refine re_gI (pc := 62) g6_ lfX12_378 rfl (by decide +kernel : decode cX12_sentence 62 = .ok (.getfield 378, 3)) ?_
  obtain ⟨u7_, g8_, h⟩ := rv_b_e h
  obtain ⟨x10_, S11_, g12_, h⟩ := rv_bp_e h
  have m9_ := metX12_closeTape n S a0 x1 x5_ _ _ g12_
  have z13_ : rv_same S S11_ := m9_.sh rfl
  refine re_cV (pc := 65) [.int x1, .int x5_] m9_ (rv_okl.k z13_) (rv_up.sh z13_) (by decide) (rv_ck_e g8_) ⟨by decide, rfl⟩ (Nat.le_of_ble_eq_true rfl) lVX12_91 rfl (by decide +kernel : decode cX12_sentence 65 = .ok (.invokevirtual 91, 3)) ?_
  cases h
  exact re_iret (fun ty hty => by cases hty; rfl) (by decide +kernel : decode cX12_sentence 68 = .ok (.ireturn, 1))
noncomputable def fnX12_sentence (n : Nat) (S : rvS) (a0 : Nat) : Option (Int32 × rvS) :=
  (rv_gR S 10 a0 0).bind fun a1_ =>
  (rv_ck S 7 a1_).bind fun u3_ =>
  (fnX8_open n S a1_ (200 : Int32)).bind fun S6_ =>
  (rv_gR S6_ 10 a0 2).bind fun a9_ =>
  (rv_gR S6_ 8 a9_ 2).bind fun a11_ =>
  (rv_gR S6_ 10 a0 0).bind fun a13_ =>
  (rv_gR S6_ 10 a0 1).bind fun a15_ =>
  (rv_gR S6_ 8 a15_ 0).bind fun a17_ =>
  (rv_ck S6_ 6 a11_).bind fun u19_ =>
  rv_bp (fnX7_read n S6_ a11_ a13_ a17_) fun x22_ S23_ =>
  if x22_ = 0 then (
    cX12_sentence_53 n S23_ a0 x22_)
  else (
    (rv_gR S23_ 10 a0 1).bind fun a27_ =>
    (rv_gR S23_ 8 a27_ 2).bind fun a29_ =>
    (rv_gR S23_ 10 a0 2).bind fun a31_ =>
    (rv_gR S23_ 8 a31_ 2).bind fun a33_ =>
    (rv_ck S23_ 6 a29_).bind fun u35_ =>
    (fnX7_copyFrom n S23_ a29_ a33_).bind fun S38_ =>
    cX12_sentence_53 n S38_ a0 x22_)
set_option maxRecDepth 20000 in
set_option maxHeartbeats 4000000 in
theorem eX12_sentence_in (n : Nat) (S : rvS) (a0 : Nat) (r : Int32) (S' : rvS) (h : fnX12_sentence n S a0 = some (r, S')) : rv_Ev mX12_sentence 70 0 [(0, .ref a0)] [] S (some (.int r)) S' := by
  unfold fnX12_sentence at h
  refine re_aloadn (pc := 0) 0 (by decide +kernel : decode cX12_sentence 0 = .ok (.aload_n 0, 1)) rfl ?_
  obtain ⟨a1_, g2_, h⟩ := rv_b_e h
  refine re_gR (pc := 1) g2_ lfX12_10 rfl (by decide +kernel : decode cX12_sentence 1 = .ok (.getfield 10, 3)) ?_
  refine re_sipush (pc := 4) (200 : Int32) (by decide +kernel : decode cX12_sentence 4 = .ok (.sipush 200, 3)) (by decide) ?_
  obtain ⟨u3_, g4_, h⟩ := rv_b_e h
  obtain ⟨S6_, g7_, h⟩ := rv_b_e h
  have m5_ := metX8_open n S a1_ (200 : Int32) _ g7_
  have z8_ : rv_same S S6_ := m5_.sh rfl
  refine re_cV (pc := 7) [.int (200 : Int32)] m5_ (rv_okl.k z8_) (rv_up.sh z8_) (by decide) (rv_ck_e g4_) ⟨by decide, rfl⟩ (Nat.le_of_ble_eq_true rfl) lVX12_73 rfl (by decide +kernel : decode cX12_sentence 7 = .ok (.invokevirtual 73, 3)) ?_
  refine re_aloadn (pc := 10) 0 (by decide +kernel : decode cX12_sentence 10 = .ok (.aload_n 0, 1)) rfl ?_
  obtain ⟨a9_, g10_, h⟩ := rv_b_e h
  refine re_gR (pc := 11) g10_ lfX12_23 rfl (by decide +kernel : decode cX12_sentence 11 = .ok (.getfield 23, 3)) ?_
  obtain ⟨a11_, g12_, h⟩ := rv_b_e h
  refine re_gR (pc := 14) g12_ lfX12_366 rfl (by decide +kernel : decode cX12_sentence 14 = .ok (.getfield 366, 3)) ?_
  refine re_aloadn (pc := 17) 0 (by decide +kernel : decode cX12_sentence 17 = .ok (.aload_n 0, 1)) rfl ?_
  obtain ⟨a13_, g14_, h⟩ := rv_b_e h
  refine re_gR (pc := 18) g14_ lfX12_10 rfl (by decide +kernel : decode cX12_sentence 18 = .ok (.getfield 10, 3)) ?_
  refine re_aloadn (pc := 21) 0 (by decide +kernel : decode cX12_sentence 21 = .ok (.aload_n 0, 1)) rfl ?_
  obtain ⟨a15_, g16_, h⟩ := rv_b_e h
  refine re_gR (pc := 22) g16_ lfX12_19 rfl (by decide +kernel : decode cX12_sentence 22 = .ok (.getfield 19, 3)) ?_
  obtain ⟨a17_, g18_, h⟩ := rv_b_e h
  refine re_gR (pc := 25) g18_ lfX12_115 rfl (by decide +kernel : decode cX12_sentence 25 = .ok (.getfield 115, 3)) ?_
  obtain ⟨u19_, g20_, h⟩ := rv_b_e h
  obtain ⟨x22_, S23_, g24_, h⟩ := rv_bp_e h
  have m21_ := metX7_read n S6_ a11_ a13_ a17_ _ _ g24_
  have z25_ : rv_same S6_ S23_ := m21_.sh rfl
  refine re_cV (pc := 28) [.ref a13_, .ref a17_] m21_ (rv_okl.k z25_) (rv_up.sh z25_) (by decide) (rv_ck_e g20_) ⟨by decide, rfl⟩ (Nat.le_of_ble_eq_true rfl) lVX12_370 rfl (by decide +kernel : decode cX12_sentence 28 = .ok (.invokevirtual 370, 3)) ?_
  refine re_istoren (pc := 31) (lv1 := [(1, .int x22_), (0, .ref a0)]) (by decide +kernel : decode cX12_sentence 31 = .ok (.istore_n 1, 1)) rfl (by decide) rfl ?_
  refine re_iloadn (pc := 32) 0 (by decide +kernel : decode cX12_sentence 32 = .ok (.iload_n 1, 1)) rfl ?_
  rcases rv_if_e h with ⟨g26_, h⟩ | ⟨g26_, h⟩
  · refine re_if_eq_t (pc := 33) 53 (by decide +kernel : decode cX12_sentence 33 = .ok (.ifCond .eq 20, 3)) (by decide) g26_ ?_
    refine re_sub [1, 0] (lv1 := [(0, .ref a0), (1, .int x22_)]) rfl ?_
    exact eX12_sentence_53 n S23_ a0 x22_ _ _ h
  · refine re_if_eq_f (pc := 33) 53 (by decide +kernel : decode cX12_sentence 33 = .ok (.ifCond .eq 20, 3)) (by decide) g26_ ?_
    refine re_aloadn (pc := 36) 1 (by decide +kernel : decode cX12_sentence 36 = .ok (.aload_n 0, 1)) rfl ?_
    obtain ⟨a27_, g28_, h⟩ := rv_b_e h
    refine re_gR (pc := 37) g28_ lfX12_19 rfl (by decide +kernel : decode cX12_sentence 37 = .ok (.getfield 19, 3)) ?_
    obtain ⟨a29_, g30_, h⟩ := rv_b_e h
    refine re_gR (pc := 40) g30_ lfX12_366 rfl (by decide +kernel : decode cX12_sentence 40 = .ok (.getfield 366, 3)) ?_
    refine re_aloadn (pc := 43) 1 (by decide +kernel : decode cX12_sentence 43 = .ok (.aload_n 0, 1)) rfl ?_
    obtain ⟨a31_, g32_, h⟩ := rv_b_e h
    refine re_gR (pc := 44) g32_ lfX12_23 rfl (by decide +kernel : decode cX12_sentence 44 = .ok (.getfield 23, 3)) ?_
    obtain ⟨a33_, g34_, h⟩ := rv_b_e h
    refine re_gR (pc := 47) g34_ lfX12_366 rfl (by decide +kernel : decode cX12_sentence 47 = .ok (.getfield 366, 3)) ?_
    obtain ⟨u35_, g36_, h⟩ := rv_b_e h
    obtain ⟨S38_, g39_, h⟩ := rv_b_e h
    have m37_ := metX7_copyFrom n S23_ a29_ a33_ _ g39_
    have z40_ : rv_same S23_ S38_ := m37_.sh rfl
    refine re_cV (pc := 50) [.ref a33_] m37_ (rv_okl.k z40_) (rv_up.sh z40_) (by decide) (rv_ck_e g36_) ⟨by decide, rfl⟩ (Nat.le_of_ble_eq_true rfl) lVX12_375 rfl (by decide +kernel : decode cX12_sentence 50 = .ok (.invokevirtual 375, 3)) ?_
    refine re_sub [1, 0] (lv1 := [(0, .ref a0), (1, .int x22_)]) rfl ?_
    exact eX12_sentence_53 n S38_ a0 x22_ _ _ h
theorem metX12_sentence (n : Nat) (S : rvS) (a0 : Nat) (r : Int32) (S' : rvS) (h : fnX12_sentence n S a0 = some (r, S')) : rv_Met yX12_sentence mX12_sentence 70 [.ref a0] S (some (.int r)) S' := rv_Met.of ⟨by decide +kernel, rfl, (fun z => by first | rfl | cases z), rfl⟩ (Nat.le_of_ble_eq_true rfl) rfl (eX12_sentence_in n S a0 r S' h)
noncomputable def fnX12_said (n : Nat) (S : rvS) (a0 : Nat) (x1 : Int32) : Option (Int32 × rvS) :=
  (rv_gR S 10 a0 1).bind fun a1_ =>
  (rv_gR S 8 a1_ 2).bind fun a3_ =>
  (rv_gI S 6 a3_ 5).bind fun x5_ =>
  if x5_ = 0 then (
    some ((-1 : Int32), S))
  else (
    (rv_gR S 10 a0 1).bind fun a8_ =>
    (rv_gR S 8 a8_ 2).bind fun a10_ =>
    (rv_gR S 10 a0 1).bind fun a12_ =>
    (rv_ck S 6 a10_).bind fun u14_ =>
    rv_bp (fnX7_coinsSaid n S a10_ a12_) fun x17_ S18_ =>
    (fnX12_countOrOne n S18_ x17_ x1).bind fun x22_ =>
    some (x22_, S18_))
set_option maxRecDepth 20000 in
set_option maxHeartbeats 4000000 in
theorem eX12_said_in (n : Nat) (S : rvS) (a0 : Nat) (x1 : Int32) (r : Int32) (S' : rvS) (h : fnX12_said n S a0 x1 = some (r, S')) : rv_Ev mX12_said 7 0 [(0, .ref a0), (1, .int x1)] [] S (some (.int r)) S' := by
  unfold fnX12_said at h
  refine re_aloadn (pc := 0) 0 (by decide +kernel : decode cX12_said 0 = .ok (.aload_n 0, 1)) rfl ?_
  obtain ⟨a1_, g2_, h⟩ := rv_b_e h
  refine re_gR (pc := 1) g2_ lfX12_19 rfl (by decide +kernel : decode cX12_said 1 = .ok (.getfield 19, 3)) ?_
  obtain ⟨a3_, g4_, h⟩ := rv_b_e h
  refine re_gR (pc := 4) g4_ lfX12_366 rfl (by decide +kernel : decode cX12_said 4 = .ok (.getfield 366, 3)) ?_
  obtain ⟨x5_, g6_, h⟩ := rv_b_e h
  refine re_gI (pc := 7) g6_ lfX12_378 rfl (by decide +kernel : decode cX12_said 7 = .ok (.getfield 378, 3)) ?_
  rcases rv_if_e h with ⟨g7_, h⟩ | ⟨g7_, h⟩
  · refine re_if_ne_f (pc := 10) 15 (by decide +kernel : decode cX12_said 10 = .ok (.ifCond .ne 5, 3)) (by decide) g7_ ?_
    refine re_iconst (pc := 13) (-1 : Int32) (by decide +kernel : decode cX12_said 13 = .ok (.iconst (-1), 1)) (by decide) ?_
    cases h
    exact re_iret (fun ty hty => by cases hty; rfl) (by decide +kernel : decode cX12_said 14 = .ok (.ireturn, 1))
  · refine re_if_ne_t (pc := 10) 15 (by decide +kernel : decode cX12_said 10 = .ok (.ifCond .ne 5, 3)) (by decide) g7_ ?_
    refine re_aloadn (pc := 15) 0 (by decide +kernel : decode cX12_said 15 = .ok (.aload_n 0, 1)) rfl ?_
    obtain ⟨a8_, g9_, h⟩ := rv_b_e h
    refine re_gR (pc := 16) g9_ lfX12_19 rfl (by decide +kernel : decode cX12_said 16 = .ok (.getfield 19, 3)) ?_
    obtain ⟨a10_, g11_, h⟩ := rv_b_e h
    refine re_gR (pc := 19) g11_ lfX12_366 rfl (by decide +kernel : decode cX12_said 19 = .ok (.getfield 366, 3)) ?_
    refine re_aloadn (pc := 22) 0 (by decide +kernel : decode cX12_said 22 = .ok (.aload_n 0, 1)) rfl ?_
    obtain ⟨a12_, g13_, h⟩ := rv_b_e h
    refine re_gR (pc := 23) g13_ lfX12_19 rfl (by decide +kernel : decode cX12_said 23 = .ok (.getfield 19, 3)) ?_
    obtain ⟨u14_, g15_, h⟩ := rv_b_e h
    obtain ⟨x17_, S18_, g19_, h⟩ := rv_bp_e h
    have m16_ := metX7_coinsSaid n S a10_ a12_ _ _ g19_
    have z20_ : rv_same S S18_ := m16_.sh rfl
    refine re_cV (pc := 26) [.ref a12_] m16_ (rv_okl.k z20_) (rv_up.sh z20_) (by decide) (rv_ck_e g15_) ⟨by decide, rfl⟩ (Nat.le_of_ble_eq_true rfl) lVX12_381 rfl (by decide +kernel : decode cX12_said 26 = .ok (.invokevirtual 381, 3)) ?_
    refine re_iloadn (pc := 29) 1 (by decide +kernel : decode cX12_said 29 = .ok (.iload_n 1, 1)) rfl ?_
    obtain ⟨x22_, g23_, h⟩ := rv_b_e h
    have m21_ := metX12_countOrOne n S18_ x17_ x1 _ g23_
    refine re_cS (pc := 30) [.long x17_, .int x1] m21_ (rv_okl.k ⟨rfl, rfl⟩) (rv_up.rf _ _) (by decide) (Nat.le_of_ble_eq_true rfl) lSX12_271 rfl (by decide +kernel : decode cX12_said 30 = .ok (.invokestatic 271, 3)) ?_
    cases h
    exact re_iret (fun ty hty => by cases hty; rfl) (by decide +kernel : decode cX12_said 33 = .ok (.ireturn, 1))
theorem metX12_said (n : Nat) (S : rvS) (a0 : Nat) (x1 : Int32) (r : Int32) (S' : rvS) (h : fnX12_said n S a0 x1 = some (r, S')) : rv_Met yX12_said mX12_said 7 [.ref a0, .int x1] S (some (.int r)) S' := rv_Met.of ⟨by decide +kernel, rfl, (fun z => by first | rfl | cases z), rfl⟩ (Nat.le_of_ble_eq_true rfl) rfl (eX12_said_in n S a0 x1 r S' h)
noncomputable def fnX12_image (n : Nat) (S : rvS) (a0 : Nat) (x1 : Int32) : Option (Int32 × rvS) :=
  if x1 < 0 then (
    some ((0 : Int32), S))
  else (
    if x1 < (2 : Int32) then (
      (rv_gR S 10 a0 3).bind fun a3_ =>
      (rv_aR S 5 a3_ x1).bind fun a5_ =>
      (rv_gR S 10 a0 1).bind fun a7_ =>
      (rv_ck S 8 a5_).bind fun u9_ =>
      (fnX9_copyFrom n S a5_ a7_).bind fun S12_ =>
      (rv_gI S12_ 10 a0 4).bind fun x15_ =>
      (rv_pI S12_ 10 a0 4 (x15_ ||| ((1 : Int32) <<< (x1 &&& 31)))).bind fun S17_ =>
      some ((1 : Int32), S17_))
    else (
      some ((0 : Int32), S)))
set_option maxRecDepth 20000 in
set_option maxHeartbeats 4000000 in
theorem eX12_image_in (n : Nat) (S : rvS) (a0 : Nat) (x1 : Int32) (r : Int32) (S' : rvS) (h : fnX12_image n S a0 x1 = some (r, S')) : rv_Ev mX12_image 2 0 [(0, .ref a0), (1, .int x1)] [] S (some (.int r)) S' := by
  unfold fnX12_image at h
  refine re_iloadn (pc := 0) 1 (by decide +kernel : decode cX12_image 0 = .ok (.iload_n 1, 1)) rfl ?_
  rcases rv_if_e h with ⟨g1_, h⟩ | ⟨g1_, h⟩
  · refine re_if_lt_t (pc := 1) 9 (by decide +kernel : decode cX12_image 1 = .ok (.ifCond .lt 8, 3)) (by decide) g1_ ?_
    refine re_iconst (pc := 9) (0 : Int32) (by decide +kernel : decode cX12_image 9 = .ok (.iconst 0, 1)) (by decide) ?_
    cases h
    exact re_iret (fun ty hty => by cases hty; rfl) (by decide +kernel : decode cX12_image 10 = .ok (.ireturn, 1))
  · refine re_if_lt_f (pc := 1) 9 (by decide +kernel : decode cX12_image 1 = .ok (.ifCond .lt 8, 3)) (by decide) g1_ ?_
    refine re_iloadn (pc := 4) 1 (by decide +kernel : decode cX12_image 4 = .ok (.iload_n 1, 1)) rfl ?_
    refine re_iconst (pc := 5) (2 : Int32) (by decide +kernel : decode cX12_image 5 = .ok (.iconst 2, 1)) (by decide) ?_
    rcases rv_if_e h with ⟨g2_, h⟩ | ⟨g2_, h⟩
    · refine re_icmp_lt_t (pc := 6) 11 (by decide +kernel : decode cX12_image 6 = .ok (.if_icmp .lt 5, 3)) (by decide) g2_ ?_
      refine re_aloadn (pc := 11) 0 (by decide +kernel : decode cX12_image 11 = .ok (.aload_n 0, 1)) rfl ?_
      obtain ⟨a3_, g4_, h⟩ := rv_b_e h
      refine re_gR (pc := 12) g4_ lfX12_26 rfl (by decide +kernel : decode cX12_image 12 = .ok (.getfield 26, 3)) ?_
      refine re_iloadn (pc := 15) 1 (by decide +kernel : decode cX12_image 15 = .ok (.iload_n 1, 1)) rfl ?_
      obtain ⟨a5_, g6_, h⟩ := rv_b_e h
      refine re_aR (pc := 16) (t := 1) (by decide) g6_ (by decide +kernel : decode cX12_image 16 = .ok (.aaload, 1)) ?_
      refine re_aloadn (pc := 17) 0 (by decide +kernel : decode cX12_image 17 = .ok (.aload_n 0, 1)) rfl ?_
      obtain ⟨a7_, g8_, h⟩ := rv_b_e h
      refine re_gR (pc := 18) g8_ lfX12_19 rfl (by decide +kernel : decode cX12_image 18 = .ok (.getfield 19, 3)) ?_
      obtain ⟨u9_, g10_, h⟩ := rv_b_e h
      obtain ⟨S12_, g13_, h⟩ := rv_b_e h
      have m11_ := metX9_copyFrom n S a5_ a7_ _ g13_
      have z14_ : rv_same S S12_ := m11_.sh rfl
      refine re_cV (pc := 21) [.ref a7_] m11_ (rv_okl.k z14_) (rv_up.sh z14_) (by decide) (rv_ck_e g10_) ⟨by decide, rfl⟩ (Nat.le_of_ble_eq_true rfl) lVX12_84 rfl (by decide +kernel : decode cX12_image 21 = .ok (.invokevirtual 84, 3)) ?_
      refine re_aloadn (pc := 24) 0 (by decide +kernel : decode cX12_image 24 = .ok (.aload_n 0, 1)) rfl ?_
      refine re_dup (pc := 25) (by decide +kernel : decode cX12_image 25 = .ok (.dup, 1)) rfl ?_
      obtain ⟨x15_, g16_, h⟩ := rv_b_e h
      refine re_gI (pc := 26) g16_ lfX12_385 rfl (by decide +kernel : decode cX12_image 26 = .ok (.getfield 385, 3)) ?_
      refine re_iconst (pc := 29) (1 : Int32) (by decide +kernel : decode cX12_image 29 = .ok (.iconst 1, 1)) (by decide) ?_
      refine re_iloadn (pc := 30) 1 (by decide +kernel : decode cX12_image 30 = .ok (.iload_n 1, 1)) rfl ?_
      refine re_ishl (pc := 31) (by decide +kernel : decode cX12_image 31 = .ok (.ishl, 1)) ?_
      refine re_ior (pc := 32) (by decide +kernel : decode cX12_image 32 = .ok (.ior, 1)) ?_
      obtain ⟨S17_, g18_, h⟩ := rv_b_e h
      refine re_pI (pc := 33) g18_ lfX12_385 rfl rfl rfl rfl (by decide +kernel : decode cX12_image 33 = .ok (.putfield 385, 3)) ?_
      refine re_iconst (pc := 36) (1 : Int32) (by decide +kernel : decode cX12_image 36 = .ok (.iconst 1, 1)) (by decide) ?_
      cases h
      exact re_iret (fun ty hty => by cases hty; rfl) (by decide +kernel : decode cX12_image 37 = .ok (.ireturn, 1))
    · refine re_icmp_lt_f (pc := 6) 11 (by decide +kernel : decode cX12_image 6 = .ok (.if_icmp .lt 5, 3)) (by decide) g2_ ?_
      refine re_iconst (pc := 9) (0 : Int32) (by decide +kernel : decode cX12_image 9 = .ok (.iconst 0, 1)) (by decide) ?_
      cases h
      exact re_iret (fun ty hty => by cases hty; rfl) (by decide +kernel : decode cX12_image 10 = .ok (.ireturn, 1))
theorem metX12_image (n : Nat) (S : rvS) (a0 : Nat) (x1 : Int32) (r : Int32) (S' : rvS) (h : fnX12_image n S a0 x1 = some (r, S')) : rv_Met yX12_image mX12_image 2 [.ref a0, .int x1] S (some (.int r)) S' := rv_Met.of ⟨by decide +kernel, rfl, (fun z => by first | rfl | cases z), rfl⟩ (Nat.le_of_ble_eq_true rfl) rfl (eX12_image_in n S a0 x1 r S' h)
noncomputable def fnX12_restore (n : Nat) (S : rvS) (a0 : Nat) (x1 : Int32) : Option (Int32 × rvS) :=
  if x1 < 0 then (
    some ((0 : Int32), S))
  else (
    if (2 : Int32) ≤ x1 then (
      some ((0 : Int32), S))
    else (
      (rv_gI S 10 a0 4).bind fun x3_ =>
      if ((x3_ >>> (x1 &&& 31)) &&& (1 : Int32)) = 0 then (
        some ((0 : Int32), S))
      else (
        (rv_gR S 10 a0 1).bind fun a6_ =>
        (rv_gR S 10 a0 3).bind fun a8_ =>
        (rv_aR S 5 a8_ x1).bind fun a10_ =>
        (rv_ck S 8 a6_).bind fun u12_ =>
        (fnX9_copyFrom n S a6_ a10_).bind fun S15_ =>
        some ((1 : Int32), S15_))))
set_option maxRecDepth 20000 in
set_option maxHeartbeats 4000000 in
theorem eX12_restore_in (n : Nat) (S : rvS) (a0 : Nat) (x1 : Int32) (r : Int32) (S' : rvS) (h : fnX12_restore n S a0 x1 = some (r, S')) : rv_Ev mX12_restore 2 0 [(0, .ref a0), (1, .int x1)] [] S (some (.int r)) S' := by
  unfold fnX12_restore at h
  refine re_iloadn (pc := 0) 1 (by decide +kernel : decode cX12_restore 0 = .ok (.iload_n 1, 1)) rfl ?_
  rcases rv_if_e h with ⟨g1_, h⟩ | ⟨g1_, h⟩
  · refine re_if_lt_t (pc := 1) 20 (by decide +kernel : decode cX12_restore 1 = .ok (.ifCond .lt 19, 3)) (by decide) g1_ ?_
    refine re_iconst (pc := 20) (0 : Int32) (by decide +kernel : decode cX12_restore 20 = .ok (.iconst 0, 1)) (by decide) ?_
    cases h
    exact re_iret (fun ty hty => by cases hty; rfl) (by decide +kernel : decode cX12_restore 21 = .ok (.ireturn, 1))
  · refine re_if_lt_f (pc := 1) 20 (by decide +kernel : decode cX12_restore 1 = .ok (.ifCond .lt 19, 3)) (by decide) g1_ ?_
    refine re_iloadn (pc := 4) 1 (by decide +kernel : decode cX12_restore 4 = .ok (.iload_n 1, 1)) rfl ?_
    refine re_iconst (pc := 5) (2 : Int32) (by decide +kernel : decode cX12_restore 5 = .ok (.iconst 2, 1)) (by decide) ?_
    rcases rv_if_e h with ⟨g2_, h⟩ | ⟨g2_, h⟩
    · refine re_icmp_ge_t (pc := 6) 20 (by decide +kernel : decode cX12_restore 6 = .ok (.if_icmp .ge 14, 3)) (by decide) g2_ ?_
      refine re_iconst (pc := 20) (0 : Int32) (by decide +kernel : decode cX12_restore 20 = .ok (.iconst 0, 1)) (by decide) ?_
      cases h
      exact re_iret (fun ty hty => by cases hty; rfl) (by decide +kernel : decode cX12_restore 21 = .ok (.ireturn, 1))
    · refine re_icmp_ge_f (pc := 6) 20 (by decide +kernel : decode cX12_restore 6 = .ok (.if_icmp .ge 14, 3)) (by decide) g2_ ?_
      refine re_aloadn (pc := 9) 0 (by decide +kernel : decode cX12_restore 9 = .ok (.aload_n 0, 1)) rfl ?_
      obtain ⟨x3_, g4_, h⟩ := rv_b_e h
      refine re_gI (pc := 10) g4_ lfX12_385 rfl (by decide +kernel : decode cX12_restore 10 = .ok (.getfield 385, 3)) ?_
      refine re_iloadn (pc := 13) 1 (by decide +kernel : decode cX12_restore 13 = .ok (.iload_n 1, 1)) rfl ?_
      refine re_ishr (pc := 14) (by decide +kernel : decode cX12_restore 14 = .ok (.ishr, 1)) ?_
      refine re_iconst (pc := 15) (1 : Int32) (by decide +kernel : decode cX12_restore 15 = .ok (.iconst 1, 1)) (by decide) ?_
      refine re_iand (pc := 16) (by decide +kernel : decode cX12_restore 16 = .ok (.iand, 1)) ?_
      rcases rv_if_e h with ⟨g5_, h⟩ | ⟨g5_, h⟩
      · refine re_if_ne_f (pc := 17) 22 (by decide +kernel : decode cX12_restore 17 = .ok (.ifCond .ne 5, 3)) (by decide) g5_ ?_
        refine re_iconst (pc := 20) (0 : Int32) (by decide +kernel : decode cX12_restore 20 = .ok (.iconst 0, 1)) (by decide) ?_
        cases h
        exact re_iret (fun ty hty => by cases hty; rfl) (by decide +kernel : decode cX12_restore 21 = .ok (.ireturn, 1))
      · refine re_if_ne_t (pc := 17) 22 (by decide +kernel : decode cX12_restore 17 = .ok (.ifCond .ne 5, 3)) (by decide) g5_ ?_
        refine re_aloadn (pc := 22) 0 (by decide +kernel : decode cX12_restore 22 = .ok (.aload_n 0, 1)) rfl ?_
        obtain ⟨a6_, g7_, h⟩ := rv_b_e h
        refine re_gR (pc := 23) g7_ lfX12_19 rfl (by decide +kernel : decode cX12_restore 23 = .ok (.getfield 19, 3)) ?_
        refine re_aloadn (pc := 26) 0 (by decide +kernel : decode cX12_restore 26 = .ok (.aload_n 0, 1)) rfl ?_
        obtain ⟨a8_, g9_, h⟩ := rv_b_e h
        refine re_gR (pc := 27) g9_ lfX12_26 rfl (by decide +kernel : decode cX12_restore 27 = .ok (.getfield 26, 3)) ?_
        refine re_iloadn (pc := 30) 1 (by decide +kernel : decode cX12_restore 30 = .ok (.iload_n 1, 1)) rfl ?_
        obtain ⟨a10_, g11_, h⟩ := rv_b_e h
        refine re_aR (pc := 31) (t := 1) (by decide) g11_ (by decide +kernel : decode cX12_restore 31 = .ok (.aaload, 1)) ?_
        obtain ⟨u12_, g13_, h⟩ := rv_b_e h
        obtain ⟨S15_, g16_, h⟩ := rv_b_e h
        have m14_ := metX9_copyFrom n S a6_ a10_ _ g16_
        have z17_ : rv_same S S15_ := m14_.sh rfl
        refine re_cV (pc := 32) [.ref a10_] m14_ (rv_okl.k z17_) (rv_up.sh z17_) (by decide) (rv_ck_e g13_) ⟨by decide, rfl⟩ (Nat.le_of_ble_eq_true rfl) lVX12_84 rfl (by decide +kernel : decode cX12_restore 32 = .ok (.invokevirtual 84, 3)) ?_
        refine re_iconst (pc := 35) (1 : Int32) (by decide +kernel : decode cX12_restore 35 = .ok (.iconst 1, 1)) (by decide) ?_
        cases h
        exact re_iret (fun ty hty => by cases hty; rfl) (by decide +kernel : decode cX12_restore 36 = .ok (.ireturn, 1))
theorem metX12_restore (n : Nat) (S : rvS) (a0 : Nat) (x1 : Int32) (r : Int32) (S' : rvS) (h : fnX12_restore n S a0 x1 = some (r, S')) : rv_Met yX12_restore mX12_restore 2 [.ref a0, .int x1] S (some (.int r)) S' := rv_Met.of ⟨by decide +kernel, rfl, (fun z => by first | rfl | cases z), rfl⟩ (Nat.le_of_ble_eq_true rfl) rfl (eX12_restore_in n S a0 x1 r S' h)
noncomputable def fnX12_count (n : Nat) (S : rvS) (a0 : Nat) (x1 : Int32) : Option Int32 :=
  if x1 = 0 then (
    (rv_gR S 10 a0 1).bind fun a2_ =>
    (rv_gR S 8 a2_ 0).bind fun a4_ =>
    (rv_gI S 0 a4_ 0).bind fun x6_ =>
    some x6_)
  else (
    if x1 = 1 then (
      (rv_gR S 10 a0 1).bind fun a9_ =>
      (rv_gR S 8 a9_ 1).bind fun a11_ =>
      (rv_gI S 5 a11_ 0).bind fun x13_ =>
      some x13_)
    else (
      if x1 = 2 then (
        (rv_gR S 10 a0 1).bind fun a16_ =>
        (rv_gI S 8 a16_ 6).bind fun x18_ =>
        some x18_)
      else (
        if x1 = 3 then (
          (rv_gR S 10 a0 1).bind fun a21_ =>
          (rv_gR S 8 a21_ 1).bind fun a23_ =>
          (rv_gI S 5 a23_ 1).bind fun x25_ =>
          some x25_)
        else (
          if x1 = 4 then (
            (rv_gR S 10 a0 1).bind fun a28_ =>
            (rv_gI S 8 a28_ 8).bind fun x30_ =>
            some x30_)
          else (
            if x1 = 5 then (
              (rv_gR S 10 a0 1).bind fun a33_ =>
              (rv_gI S 8 a33_ 9).bind fun x35_ =>
              some x35_)
            else (
              if x1 = 6 then (
                (rv_gR S 10 a0 1).bind fun a38_ =>
                (rv_gR S 8 a38_ 0).bind fun a40_ =>
                (rv_ck S 0 a40_).bind fun u42_ =>
                (fnX1_roads n S a40_).bind fun x45_ =>
                some x45_)
              else (
                if x1 = 7 then (
                  (rv_gR S 10 a0 1).bind fun a48_ =>
                  (rv_gR S 8 a48_ 0).bind fun a50_ =>
                  (rv_gI S 0 a50_ 2).bind fun x52_ =>
                  (fnJ6_bitCount_0f7a4 n S x52_).bind fun x55_ =>
                  some x55_)
                else (
                  if x1 = 8 then (
                    (rv_gR S 10 a0 0).bind fun a58_ =>
                    (rv_gI S 7 a58_ 1).bind fun x60_ =>
                    some x60_)
                  else (
                    some (-1 : Int32))))))))))
set_option maxRecDepth 20000 in
set_option maxHeartbeats 4000000 in
theorem eX12_count_in (n : Nat) (S : rvS) (a0 : Nat) (x1 : Int32) (r : Int32) (h : fnX12_count n S a0 x1 = some r) : rv_Ev mX12_count 2 0 [(0, .ref a0), (1, .int x1)] [] S (some (.int r)) S := by
  unfold fnX12_count at h
  refine re_iloadn (pc := 0) 1 (by decide +kernel : decode cX12_count 0 = .ok (.iload_n 1, 1)) rfl ?_
  rcases rv_if_e h with ⟨g1_, h⟩ | ⟨g1_, h⟩
  · refine re_tabInE (pc := 1) (off := 51) 52 (by decide +kernel : decode cX12_count 1 = .ok (.tableswitch 141 0 8 #[51, 62, 73, 81, 92, 100, 108, 119, 133], 51)) g1_ (by decide) (by decide) (by decide) (by decide) ?_
    refine re_aloadn (pc := 52) 0 (by decide +kernel : decode cX12_count 52 = .ok (.aload_n 0, 1)) rfl ?_
    obtain ⟨a2_, g3_, h⟩ := rv_b_e h
    refine re_gR (pc := 53) g3_ lfX12_19 rfl (by decide +kernel : decode cX12_count 53 = .ok (.getfield 19, 3)) ?_
    obtain ⟨a4_, g5_, h⟩ := rv_b_e h
    refine re_gR (pc := 56) g5_ lfX12_115 rfl (by decide +kernel : decode cX12_count 56 = .ok (.getfield 115, 3)) ?_
    obtain ⟨x6_, g7_, h⟩ := rv_b_e h
    refine re_gI (pc := 59) g7_ lfX12_234 rfl (by decide +kernel : decode cX12_count 59 = .ok (.getfield 234, 3)) ?_
    cases h
    exact re_iret (fun ty hty => by cases hty; rfl) (by decide +kernel : decode cX12_count 62 = .ok (.ireturn, 1))
  · skip
    rcases rv_if_e h with ⟨g8_, h⟩ | ⟨g8_, h⟩
    · refine re_tabInE (pc := 1) (off := 62) 63 (by decide +kernel : decode cX12_count 1 = .ok (.tableswitch 141 0 8 #[51, 62, 73, 81, 92, 100, 108, 119, 133], 51)) g8_ (by decide) (by decide) (by decide) (by decide) ?_
      refine re_aloadn (pc := 63) 0 (by decide +kernel : decode cX12_count 63 = .ok (.aload_n 0, 1)) rfl ?_
      obtain ⟨a9_, g10_, h⟩ := rv_b_e h
      refine re_gR (pc := 64) g10_ lfX12_19 rfl (by decide +kernel : decode cX12_count 64 = .ok (.getfield 19, 3)) ?_
      obtain ⟨a11_, g12_, h⟩ := rv_b_e h
      refine re_gR (pc := 67) g12_ lfX12_138 rfl (by decide +kernel : decode cX12_count 67 = .ok (.getfield 138, 3)) ?_
      obtain ⟨x13_, g14_, h⟩ := rv_b_e h
      refine re_gI (pc := 70) g14_ lfX12_216 rfl (by decide +kernel : decode cX12_count 70 = .ok (.getfield 216, 3)) ?_
      cases h
      exact re_iret (fun ty hty => by cases hty; rfl) (by decide +kernel : decode cX12_count 73 = .ok (.ireturn, 1))
    · skip
      rcases rv_if_e h with ⟨g15_, h⟩ | ⟨g15_, h⟩
      · refine re_tabInE (pc := 1) (off := 73) 74 (by decide +kernel : decode cX12_count 1 = .ok (.tableswitch 141 0 8 #[51, 62, 73, 81, 92, 100, 108, 119, 133], 51)) g15_ (by decide) (by decide) (by decide) (by decide) ?_
        refine re_aloadn (pc := 74) 0 (by decide +kernel : decode cX12_count 74 = .ok (.aload_n 0, 1)) rfl ?_
        obtain ⟨a16_, g17_, h⟩ := rv_b_e h
        refine re_gR (pc := 75) g17_ lfX12_19 rfl (by decide +kernel : decode cX12_count 75 = .ok (.getfield 19, 3)) ?_
        obtain ⟨x18_, g19_, h⟩ := rv_b_e h
        refine re_gI (pc := 78) g19_ lfX12_388 rfl (by decide +kernel : decode cX12_count 78 = .ok (.getfield 388, 3)) ?_
        cases h
        exact re_iret (fun ty hty => by cases hty; rfl) (by decide +kernel : decode cX12_count 81 = .ok (.ireturn, 1))
      · skip
        rcases rv_if_e h with ⟨g20_, h⟩ | ⟨g20_, h⟩
        · refine re_tabInE (pc := 1) (off := 81) 82 (by decide +kernel : decode cX12_count 1 = .ok (.tableswitch 141 0 8 #[51, 62, 73, 81, 92, 100, 108, 119, 133], 51)) g20_ (by decide) (by decide) (by decide) (by decide) ?_
          refine re_aloadn (pc := 82) 0 (by decide +kernel : decode cX12_count 82 = .ok (.aload_n 0, 1)) rfl ?_
          obtain ⟨a21_, g22_, h⟩ := rv_b_e h
          refine re_gR (pc := 83) g22_ lfX12_19 rfl (by decide +kernel : decode cX12_count 83 = .ok (.getfield 19, 3)) ?_
          obtain ⟨a23_, g24_, h⟩ := rv_b_e h
          refine re_gR (pc := 86) g24_ lfX12_138 rfl (by decide +kernel : decode cX12_count 86 = .ok (.getfield 138, 3)) ?_
          obtain ⟨x25_, g26_, h⟩ := rv_b_e h
          refine re_gI (pc := 89) g26_ lfX12_391 rfl (by decide +kernel : decode cX12_count 89 = .ok (.getfield 391, 3)) ?_
          cases h
          exact re_iret (fun ty hty => by cases hty; rfl) (by decide +kernel : decode cX12_count 92 = .ok (.ireturn, 1))
        · skip
          rcases rv_if_e h with ⟨g27_, h⟩ | ⟨g27_, h⟩
          · refine re_tabInE (pc := 1) (off := 92) 93 (by decide +kernel : decode cX12_count 1 = .ok (.tableswitch 141 0 8 #[51, 62, 73, 81, 92, 100, 108, 119, 133], 51)) g27_ (by decide) (by decide) (by decide) (by decide) ?_
            refine re_aloadn (pc := 93) 0 (by decide +kernel : decode cX12_count 93 = .ok (.aload_n 0, 1)) rfl ?_
            obtain ⟨a28_, g29_, h⟩ := rv_b_e h
            refine re_gR (pc := 94) g29_ lfX12_19 rfl (by decide +kernel : decode cX12_count 94 = .ok (.getfield 19, 3)) ?_
            obtain ⟨x30_, g31_, h⟩ := rv_b_e h
            refine re_gI (pc := 97) g31_ lfX12_394 rfl (by decide +kernel : decode cX12_count 97 = .ok (.getfield 394, 3)) ?_
            cases h
            exact re_iret (fun ty hty => by cases hty; rfl) (by decide +kernel : decode cX12_count 100 = .ok (.ireturn, 1))
          · skip
            rcases rv_if_e h with ⟨g32_, h⟩ | ⟨g32_, h⟩
            · refine re_tabInE (pc := 1) (off := 100) 101 (by decide +kernel : decode cX12_count 1 = .ok (.tableswitch 141 0 8 #[51, 62, 73, 81, 92, 100, 108, 119, 133], 51)) g32_ (by decide) (by decide) (by decide) (by decide) ?_
              refine re_aloadn (pc := 101) 0 (by decide +kernel : decode cX12_count 101 = .ok (.aload_n 0, 1)) rfl ?_
              obtain ⟨a33_, g34_, h⟩ := rv_b_e h
              refine re_gR (pc := 102) g34_ lfX12_19 rfl (by decide +kernel : decode cX12_count 102 = .ok (.getfield 19, 3)) ?_
              obtain ⟨x35_, g36_, h⟩ := rv_b_e h
              refine re_gI (pc := 105) g36_ lfX12_397 rfl (by decide +kernel : decode cX12_count 105 = .ok (.getfield 397, 3)) ?_
              cases h
              exact re_iret (fun ty hty => by cases hty; rfl) (by decide +kernel : decode cX12_count 108 = .ok (.ireturn, 1))
            · skip
              rcases rv_if_e h with ⟨g37_, h⟩ | ⟨g37_, h⟩
              · refine re_tabInE (pc := 1) (off := 108) 109 (by decide +kernel : decode cX12_count 1 = .ok (.tableswitch 141 0 8 #[51, 62, 73, 81, 92, 100, 108, 119, 133], 51)) g37_ (by decide) (by decide) (by decide) (by decide) ?_
                refine re_aloadn (pc := 109) 0 (by decide +kernel : decode cX12_count 109 = .ok (.aload_n 0, 1)) rfl ?_
                obtain ⟨a38_, g39_, h⟩ := rv_b_e h
                refine re_gR (pc := 110) g39_ lfX12_19 rfl (by decide +kernel : decode cX12_count 110 = .ok (.getfield 19, 3)) ?_
                obtain ⟨a40_, g41_, h⟩ := rv_b_e h
                refine re_gR (pc := 113) g41_ lfX12_115 rfl (by decide +kernel : decode cX12_count 113 = .ok (.getfield 115, 3)) ?_
                obtain ⟨u42_, g43_, h⟩ := rv_b_e h
                obtain ⟨x45_, g46_, h⟩ := rv_b_e h
                have m44_ := metX1_roads n S a40_ _ g46_
                refine re_cV (pc := 116) [] m44_ (rv_okl.k ⟨rfl, rfl⟩) (rv_up.rf _ _) (by decide) (rv_ck_e g43_) ⟨by decide, rfl⟩ (Nat.le_of_ble_eq_true rfl) lVX12_400 rfl (by decide +kernel : decode cX12_count 116 = .ok (.invokevirtual 400, 3)) ?_
                cases h
                exact re_iret (fun ty hty => by cases hty; rfl) (by decide +kernel : decode cX12_count 119 = .ok (.ireturn, 1))
              · skip
                rcases rv_if_e h with ⟨g47_, h⟩ | ⟨g47_, h⟩
                · refine re_tabInE (pc := 1) (off := 119) 120 (by decide +kernel : decode cX12_count 1 = .ok (.tableswitch 141 0 8 #[51, 62, 73, 81, 92, 100, 108, 119, 133], 51)) g47_ (by decide) (by decide) (by decide) (by decide) ?_
                  refine re_aloadn (pc := 120) 0 (by decide +kernel : decode cX12_count 120 = .ok (.aload_n 0, 1)) rfl ?_
                  obtain ⟨a48_, g49_, h⟩ := rv_b_e h
                  refine re_gR (pc := 121) g49_ lfX12_19 rfl (by decide +kernel : decode cX12_count 121 = .ok (.getfield 19, 3)) ?_
                  obtain ⟨a50_, g51_, h⟩ := rv_b_e h
                  refine re_gR (pc := 124) g51_ lfX12_115 rfl (by decide +kernel : decode cX12_count 124 = .ok (.getfield 115, 3)) ?_
                  obtain ⟨x52_, g53_, h⟩ := rv_b_e h
                  refine re_gI (pc := 127) g53_ lfX12_404 rfl (by decide +kernel : decode cX12_count 127 = .ok (.getfield 404, 3)) ?_
                  obtain ⟨x55_, g56_, h⟩ := rv_b_e h
                  have m54_ := metJ6_bitCount_0f7a4 n S x52_ _ g56_
                  refine re_cS (pc := 130) [.int x52_] m54_ (rv_okl.k ⟨rfl, rfl⟩) (rv_up.rf _ _) (by decide) (Nat.le_of_ble_eq_true rfl) lSX12_174 rfl (by decide +kernel : decode cX12_count 130 = .ok (.invokestatic 174, 3)) ?_
                  cases h
                  exact re_iret (fun ty hty => by cases hty; rfl) (by decide +kernel : decode cX12_count 133 = .ok (.ireturn, 1))
                · skip
                  rcases rv_if_e h with ⟨g57_, h⟩ | ⟨g57_, h⟩
                  · refine re_tabInE (pc := 1) (off := 133) 134 (by decide +kernel : decode cX12_count 1 = .ok (.tableswitch 141 0 8 #[51, 62, 73, 81, 92, 100, 108, 119, 133], 51)) g57_ (by decide) (by decide) (by decide) (by decide) ?_
                    refine re_aloadn (pc := 134) 0 (by decide +kernel : decode cX12_count 134 = .ok (.aload_n 0, 1)) rfl ?_
                    obtain ⟨a58_, g59_, h⟩ := rv_b_e h
                    refine re_gR (pc := 135) g59_ lfX12_10 rfl (by decide +kernel : decode cX12_count 135 = .ok (.getfield 10, 3)) ?_
                    obtain ⟨x60_, g61_, h⟩ := rv_b_e h
                    refine re_gI (pc := 138) g61_ lfX12_69 rfl (by decide +kernel : decode cX12_count 138 = .ok (.getfield 69, 3)) ?_
                    cases h
                    exact re_iret (fun ty hty => by cases hty; rfl) (by decide +kernel : decode cX12_count 141 = .ok (.ireturn, 1))
                  · skip
                    refine re_tabOut (pc := 1) (dflt := 141) 142 (by decide +kernel : decode cX12_count 1 = .ok (.tableswitch 141 0 8 #[51, 62, 73, 81, 92, 100, 108, 119, 133], 51)) (by have z0_ := lv_neT g1_ (a := 0) (by decide); have z1_ := lv_neT g8_ (a := 1) (by decide); have z2_ := lv_neT g15_ (a := 2) (by decide); have z3_ := lv_neT g20_ (a := 3) (by decide); have z4_ := lv_neT g27_ (a := 4) (by decide); have z5_ := lv_neT g32_ (a := 5) (by decide); have z6_ := lv_neT g37_ (a := 6) (by decide); have z7_ := lv_neT g47_ (a := 7) (by decide); have z8_ := lv_neT g57_ (a := 8) (by decide); omega) (by decide) ?_
                    refine re_iconst (pc := 142) (-1 : Int32) (by decide +kernel : decode cX12_count 142 = .ok (.iconst (-1), 1)) (by decide) ?_
                    cases h
                    exact re_iret (fun ty hty => by cases hty; rfl) (by decide +kernel : decode cX12_count 143 = .ok (.ireturn, 1))
theorem metX12_count (n : Nat) (S : rvS) (a0 : Nat) (x1 : Int32) (r : Int32) (h : fnX12_count n S a0 x1 = some r) : rv_Met yX12_count mX12_count 2 [.ref a0, .int x1] S (some (.int r)) S := rv_Met.of ⟨by decide +kernel, rfl, (fun z => by first | rfl | cases z), rfl⟩ (Nat.le_of_ble_eq_true rfl) rfl (eX12_count_in n S a0 x1 r h)
