noncomputable def fnX13_change (n : Nat) (S : rvS) (a0 : Nat) (x1 : Int32) (x2 : Int32) : Option (Int32 × rvS) :=
  (rv_pI S 11 a0 0 (0 : Int32)).bind fun S1_ =>
  (rv_ck S1_ 11 a0).bind fun u3_ =>
  (fnX13_lay n S1_ a0).bind fun S6_ =>
  (rv_ck S6_ 11 a0).bind fun u9_ =>
  (fnX13_isCoin n S6_ a0 x1).bind fun x12_ =>
  if x12_ = 0 then (
    some ((-1 : Int32), S6_))
  else (
    (rv_ck S6_ 11 a0).bind fun u15_ =>
    (fnX13_isCoin n S6_ a0 x2).bind fun x18_ =>
    if x18_ = 0 then (
      some ((-1 : Int32), S6_))
    else (
      (rv_ck S6_ 11 a0).bind fun u21_ =>
      rv_bp (fnX13_whyNoChange n S6_ a0 x1 x2) fun x24_ S25_ =>
      if x24_ = 0 then (
        (rv_ck S25_ 11 a0).bind fun u29_ =>
        (fnX13_ofCoin n S25_ a0 x1 (1 : Int32)).bind fun x32_ =>
        (rv_ck S25_ 11 a0).bind fun u34_ =>
        (fnX13_ofCoin n S25_ a0 x2 (1 : Int32)).bind fun x37_ =>
        (rv_ck S25_ 11 a0).bind fun u39_ =>
        (fnX13_goes n S25_ a0 x1 x37_).bind fun S42_ =>
        (rv_ck S42_ 11 a0).bind fun u45_ =>
        (fnX13_goes n S42_ a0 x2 x32_).bind fun S48_ =>
        (rv_gR S48_ 11 a0 14).bind fun a51_ =>
        rv_lt (((8 : Int32) + ((5 : Int32) * x37_)) + (4 : Int32)) fun x53_ =>
        (rv_aI S48_ 0 a51_ x53_).bind fun x55_ =>
        (rv_ck S48_ 11 a0).bind fun u57_ =>
        (fnX13_ofCoin n S48_ a0 x1 (0 : Int32)).bind fun x60_ =>
        (rv_ck S48_ 11 a0).bind fun u62_ =>
        (fnX13_ofCoin n S48_ a0 x2 (0 : Int32)).bind fun x65_ =>
        (rv_uI S48_ a51_ x53_ (x55_ + (x60_ - x65_))).bind fun S67_ =>
        some ((0 : Int32), S67_))
      else (
        some (x24_, S25_))))
set_option maxRecDepth 20000 in
set_option maxHeartbeats 4000000 in
theorem eX13_change_in (n : Nat) (S : rvS) (a0 : Nat) (x1 : Int32) (x2 : Int32) (r : Int32) (S' : rvS) (h : fnX13_change n S a0 x1 x2 = some (r, S')) : rv_Ev mX13_change 5 0 [(0, .ref a0), (1, .int x1), (2, .int x2)] [] S (some (.int r)) S' := by
  unfold fnX13_change at h
  refine re_aloadn (pc := 0) 0 (by decide +kernel : decode cX13_change 0 = .ok (.aload_n 0, 1)) rfl ?_
  refine re_iconst (pc := 1) (0 : Int32) (by decide +kernel : decode cX13_change 1 = .ok (.iconst 0, 1)) (by decide) ?_
  obtain ⟨S1_, g2_, h⟩ := rv_b_e h
  refine re_pI (pc := 2) g2_ lfX13_99 rfl rfl rfl rfl (by decide +kernel : decode cX13_change 2 = .ok (.putfield 99, 3)) ?_
  refine re_aloadn (pc := 5) 0 (by decide +kernel : decode cX13_change 5 = .ok (.aload_n 0, 1)) rfl ?_
  obtain ⟨u3_, g4_, h⟩ := rv_b_e h
  obtain ⟨S6_, g7_, h⟩ := rv_b_e h
  have m5_ := metX13_lay n S1_ a0 _ g7_
  have z8_ : rv_same S1_ S6_ := m5_.sh rfl
  refine re_cV (pc := 6) [] m5_ (rv_okl.k z8_) (rv_up.sh z8_) (by decide) (rv_ck_e g4_) ⟨by decide, rfl⟩ (Nat.le_of_ble_eq_true rfl) lVX13_187 rfl (by decide +kernel : decode cX13_change 6 = .ok (.invokevirtual 187, 3)) ?_
  refine re_aloadn (pc := 9) 0 (by decide +kernel : decode cX13_change 9 = .ok (.aload_n 0, 1)) rfl ?_
  refine re_iloadn (pc := 10) 1 (by decide +kernel : decode cX13_change 10 = .ok (.iload_n 1, 1)) rfl ?_
  obtain ⟨u9_, g10_, h⟩ := rv_b_e h
  obtain ⟨x12_, g13_, h⟩ := rv_b_e h
  have m11_ := metX13_isCoin n S6_ a0 x1 _ g13_
  refine re_cV (pc := 11) [.int x1] m11_ (rv_okl.k ⟨rfl, rfl⟩) (rv_up.rf _ _) (by decide) (rv_ck_e g10_) ⟨by decide, rfl⟩ (Nat.le_of_ble_eq_true rfl) lVX13_277 rfl (by decide +kernel : decode cX13_change 11 = .ok (.invokevirtual 277, 3)) ?_
  rcases rv_if_e h with ⟨g14_, h⟩ | ⟨g14_, h⟩
  · refine re_if_eq_t (pc := 14) 25 (by decide +kernel : decode cX13_change 14 = .ok (.ifCond .eq 11, 3)) (by decide) g14_ ?_
    refine re_iconst (pc := 25) (-1 : Int32) (by decide +kernel : decode cX13_change 25 = .ok (.iconst (-1), 1)) (by decide) ?_
    cases h
    exact re_iret (fun ty hty => by cases hty; rfl) (by decide +kernel : decode cX13_change 26 = .ok (.ireturn, 1))
  · refine re_if_eq_f (pc := 14) 25 (by decide +kernel : decode cX13_change 14 = .ok (.ifCond .eq 11, 3)) (by decide) g14_ ?_
    refine re_aloadn (pc := 17) 0 (by decide +kernel : decode cX13_change 17 = .ok (.aload_n 0, 1)) rfl ?_
    refine re_iloadn (pc := 18) 2 (by decide +kernel : decode cX13_change 18 = .ok (.iload_n 2, 1)) rfl ?_
    obtain ⟨u15_, g16_, h⟩ := rv_b_e h
    obtain ⟨x18_, g19_, h⟩ := rv_b_e h
    have m17_ := metX13_isCoin n S6_ a0 x2 _ g19_
    refine re_cV (pc := 19) [.int x2] m17_ (rv_okl.k ⟨rfl, rfl⟩) (rv_up.rf _ _) (by decide) (rv_ck_e g16_) ⟨by decide, rfl⟩ (Nat.le_of_ble_eq_true rfl) lVX13_277 rfl (by decide +kernel : decode cX13_change 19 = .ok (.invokevirtual 277, 3)) ?_
    rcases rv_if_e h with ⟨g20_, h⟩ | ⟨g20_, h⟩
    · refine re_if_ne_f (pc := 22) 27 (by decide +kernel : decode cX13_change 22 = .ok (.ifCond .ne 5, 3)) (by decide) g20_ ?_
      refine re_iconst (pc := 25) (-1 : Int32) (by decide +kernel : decode cX13_change 25 = .ok (.iconst (-1), 1)) (by decide) ?_
      cases h
      exact re_iret (fun ty hty => by cases hty; rfl) (by decide +kernel : decode cX13_change 26 = .ok (.ireturn, 1))
    · refine re_if_ne_t (pc := 22) 27 (by decide +kernel : decode cX13_change 22 = .ok (.ifCond .ne 5, 3)) (by decide) g20_ ?_
      refine re_aloadn (pc := 27) 0 (by decide +kernel : decode cX13_change 27 = .ok (.aload_n 0, 1)) rfl ?_
      refine re_iloadn (pc := 28) 1 (by decide +kernel : decode cX13_change 28 = .ok (.iload_n 1, 1)) rfl ?_
      refine re_iloadn (pc := 29) 2 (by decide +kernel : decode cX13_change 29 = .ok (.iload_n 2, 1)) rfl ?_
      obtain ⟨u21_, g22_, h⟩ := rv_b_e h
      obtain ⟨x24_, S25_, g26_, h⟩ := rv_bp_e h
      have m23_ := metX13_whyNoChange n S6_ a0 x1 x2 _ _ g26_
      have z27_ : rv_same S6_ S25_ := m23_.sh rfl
      refine re_cV (pc := 30) [.int x1, .int x2] m23_ (rv_okl.k z27_) (rv_up.sh z27_) (by decide) (rv_ck_e g22_) ⟨by decide, rfl⟩ (Nat.le_of_ble_eq_true rfl) lVX13_350 rfl (by decide +kernel : decode cX13_change 30 = .ok (.invokevirtual 350, 3)) ?_
      refine re_istoren (pc := 33) (lv1 := [(3, .int x24_), (0, .ref a0), (1, .int x1), (2, .int x2)]) (by decide +kernel : decode cX13_change 33 = .ok (.istore_n 3, 1)) rfl (by decide) rfl ?_
      refine re_iloadn (pc := 34) 0 (by decide +kernel : decode cX13_change 34 = .ok (.iload_n 3, 1)) rfl ?_
      rcases rv_if_e h with ⟨g28_, h⟩ | ⟨g28_, h⟩
      · refine re_if_eq_t (pc := 35) 40 (by decide +kernel : decode cX13_change 35 = .ok (.ifCond .eq 5, 3)) (by decide) g28_ ?_
        refine re_aloadn (pc := 40) 1 (by decide +kernel : decode cX13_change 40 = .ok (.aload_n 0, 1)) rfl ?_
        refine re_iloadn (pc := 41) 2 (by decide +kernel : decode cX13_change 41 = .ok (.iload_n 1, 1)) rfl ?_
        refine re_iconst (pc := 42) (1 : Int32) (by decide +kernel : decode cX13_change 42 = .ok (.iconst 1, 1)) (by decide) ?_
        obtain ⟨u29_, g30_, h⟩ := rv_b_e h
        obtain ⟨x32_, g33_, h⟩ := rv_b_e h
        have m31_ := metX13_ofCoin n S25_ a0 x1 (1 : Int32) _ g33_
        refine re_cV (pc := 43) [.int x1, .int (1 : Int32)] m31_ (rv_okl.k ⟨rfl, rfl⟩) (rv_up.rf _ _) (by decide) (rv_ck_e g30_) ⟨by decide, rfl⟩ (Nat.le_of_ble_eq_true rfl) lVX13_271 rfl (by decide +kernel : decode cX13_change 43 = .ok (.invokevirtual 271, 3)) ?_
        refine re_istore (pc := 46) (lv1 := [(4, .int x32_), (3, .int x24_), (0, .ref a0), (1, .int x1), (2, .int x2)]) (by decide +kernel : decode cX13_change 46 = .ok (.istore 4, 2)) (by decide) rfl ?_
        refine re_aloadn (pc := 48) 2 (by decide +kernel : decode cX13_change 48 = .ok (.aload_n 0, 1)) rfl ?_
        refine re_iloadn (pc := 49) 4 (by decide +kernel : decode cX13_change 49 = .ok (.iload_n 2, 1)) rfl ?_
        refine re_iconst (pc := 50) (1 : Int32) (by decide +kernel : decode cX13_change 50 = .ok (.iconst 1, 1)) (by decide) ?_
        obtain ⟨u34_, g35_, h⟩ := rv_b_e h
        obtain ⟨x37_, g38_, h⟩ := rv_b_e h
        have m36_ := metX13_ofCoin n S25_ a0 x2 (1 : Int32) _ g38_
        refine re_cV (pc := 51) [.int x2, .int (1 : Int32)] m36_ (rv_okl.k ⟨rfl, rfl⟩) (rv_up.rf _ _) (by decide) (rv_ck_e g35_) ⟨by decide, rfl⟩ (Nat.le_of_ble_eq_true rfl) lVX13_271 rfl (by decide +kernel : decode cX13_change 51 = .ok (.invokevirtual 271, 3)) ?_
        refine re_istore (pc := 54) (lv1 := [(5, .int x37_), (4, .int x32_), (3, .int x24_), (0, .ref a0), (1, .int x1), (2, .int x2)]) (by decide +kernel : decode cX13_change 54 = .ok (.istore 5, 2)) (by decide) rfl ?_
        refine re_aloadn (pc := 56) 3 (by decide +kernel : decode cX13_change 56 = .ok (.aload_n 0, 1)) rfl ?_
        refine re_iloadn (pc := 57) 4 (by decide +kernel : decode cX13_change 57 = .ok (.iload_n 1, 1)) rfl ?_
        refine re_iload (pc := 58) 0 (by decide +kernel : decode cX13_change 58 = .ok (.iload 5, 2)) rfl ?_
        obtain ⟨u39_, g40_, h⟩ := rv_b_e h
        obtain ⟨S42_, g43_, h⟩ := rv_b_e h
        have m41_ := metX13_goes n S25_ a0 x1 x37_ _ g43_
        have z44_ : rv_same S25_ S42_ := m41_.sh rfl
        refine re_cV (pc := 60) [.int x1, .int x37_] m41_ (rv_okl.k z44_) (rv_up.sh z44_) (by decide) (rv_ck_e g40_) ⟨by decide, rfl⟩ (Nat.le_of_ble_eq_true rfl) lVX13_309 rfl (by decide +kernel : decode cX13_change 60 = .ok (.invokevirtual 309, 3)) ?_
        refine re_aloadn (pc := 63) 3 (by decide +kernel : decode cX13_change 63 = .ok (.aload_n 0, 1)) rfl ?_
        refine re_iloadn (pc := 64) 5 (by decide +kernel : decode cX13_change 64 = .ok (.iload_n 2, 1)) rfl ?_
        refine re_iload (pc := 65) 1 (by decide +kernel : decode cX13_change 65 = .ok (.iload 4, 2)) rfl ?_
        obtain ⟨u45_, g46_, h⟩ := rv_b_e h
        obtain ⟨S48_, g49_, h⟩ := rv_b_e h
        have m47_ := metX13_goes n S42_ a0 x2 x32_ _ g49_
        have z50_ : rv_same S42_ S48_ := m47_.sh rfl
        refine re_cV (pc := 67) [.int x2, .int x32_] m47_ (rv_okl.k z50_) (rv_up.sh z50_) (by decide) (rv_ck_e g46_) ⟨by decide, rfl⟩ (Nat.le_of_ble_eq_true rfl) lVX13_309 rfl (by decide +kernel : decode cX13_change 67 = .ok (.invokevirtual 309, 3)) ?_
        refine re_aloadn (pc := 70) 3 (by decide +kernel : decode cX13_change 70 = .ok (.aload_n 0, 1)) rfl ?_
        obtain ⟨a51_, g52_, h⟩ := rv_b_e h
        refine re_gR (pc := 71) g52_ lfX13_13 rfl (by decide +kernel : decode cX13_change 71 = .ok (.getfield 13, 3)) ?_
        refine re_bipush (pc := 74) (8 : Int32) (by decide +kernel : decode cX13_change 74 = .ok (.bipush 8, 2)) (by decide) ?_
        refine re_iconst (pc := 76) (5 : Int32) (by decide +kernel : decode cX13_change 76 = .ok (.iconst 5, 1)) (by decide) ?_
        refine re_iload (pc := 77) 0 (by decide +kernel : decode cX13_change 77 = .ok (.iload 5, 2)) rfl ?_
        refine re_imul (pc := 79) (by decide +kernel : decode cX13_change 79 = .ok (.imul, 1)) ?_
        refine re_iadd (pc := 80) (by decide +kernel : decode cX13_change 80 = .ok (.iadd, 1)) ?_
        refine re_iconst (pc := 81) (4 : Int32) (by decide +kernel : decode cX13_change 81 = .ok (.iconst 4, 1)) (by decide) ?_
        refine re_iadd (pc := 82) (by decide +kernel : decode cX13_change 82 = .ok (.iadd, 1)) ?_
        obtain ⟨x53_, g54_, h⟩ := rv_lt_e h
        refine re_nI (pc := 83) g54_ ?_
        refine re_dup2 (pc := 83) (by decide +kernel : decode cX13_change 83 = .ok (.dup2, 1)) rfl rfl ?_
        obtain ⟨x55_, g56_, h⟩ := rv_b_e h
        refine re_aI (pc := 84) g56_ (by decide +kernel : decode cX13_change 84 = .ok (.iaload, 1)) ?_
        refine re_aloadn (pc := 85) 3 (by decide +kernel : decode cX13_change 85 = .ok (.aload_n 0, 1)) rfl ?_
        refine re_iloadn (pc := 86) 4 (by decide +kernel : decode cX13_change 86 = .ok (.iload_n 1, 1)) rfl ?_
        refine re_iconst (pc := 87) (0 : Int32) (by decide +kernel : decode cX13_change 87 = .ok (.iconst 0, 1)) (by decide) ?_
        obtain ⟨u57_, g58_, h⟩ := rv_b_e h
        obtain ⟨x60_, g61_, h⟩ := rv_b_e h
        have m59_ := metX13_ofCoin n S48_ a0 x1 (0 : Int32) _ g61_
        refine re_cV (pc := 88) [.int x1, .int (0 : Int32)] m59_ (rv_okl.k ⟨rfl, rfl⟩) (rv_up.rf _ _) (by decide) (rv_ck_e g58_) ⟨by decide, rfl⟩ (Nat.le_of_ble_eq_true rfl) lVX13_271 rfl (by decide +kernel : decode cX13_change 88 = .ok (.invokevirtual 271, 3)) ?_
        refine re_aloadn (pc := 91) 3 (by decide +kernel : decode cX13_change 91 = .ok (.aload_n 0, 1)) rfl ?_
        refine re_iloadn (pc := 92) 5 (by decide +kernel : decode cX13_change 92 = .ok (.iload_n 2, 1)) rfl ?_
        refine re_iconst (pc := 93) (0 : Int32) (by decide +kernel : decode cX13_change 93 = .ok (.iconst 0, 1)) (by decide) ?_
        obtain ⟨u62_, g63_, h⟩ := rv_b_e h
        obtain ⟨x65_, g66_, h⟩ := rv_b_e h
        have m64_ := metX13_ofCoin n S48_ a0 x2 (0 : Int32) _ g66_
        refine re_cV (pc := 94) [.int x2, .int (0 : Int32)] m64_ (rv_okl.k ⟨rfl, rfl⟩) (rv_up.rf _ _) (by decide) (rv_ck_e g63_) ⟨by decide, rfl⟩ (Nat.le_of_ble_eq_true rfl) lVX13_271 rfl (by decide +kernel : decode cX13_change 94 = .ok (.invokevirtual 271, 3)) ?_
        refine re_isub (pc := 97) (by decide +kernel : decode cX13_change 97 = .ok (.isub, 1)) ?_
        refine re_iadd (pc := 98) (by decide +kernel : decode cX13_change 98 = .ok (.iadd, 1)) ?_
        obtain ⟨S67_, g68_, h⟩ := rv_b_e h
        refine re_uI (pc := 99) g68_ (by decide +kernel : decode cX13_change 99 = .ok (.iastore, 1)) ?_
        refine re_iconst (pc := 100) (0 : Int32) (by decide +kernel : decode cX13_change 100 = .ok (.iconst 0, 1)) (by decide) ?_
        cases h
        exact re_iret (fun ty hty => by cases hty; rfl) (by decide +kernel : decode cX13_change 101 = .ok (.ireturn, 1))
      · refine re_if_eq_f (pc := 35) 40 (by decide +kernel : decode cX13_change 35 = .ok (.ifCond .eq 5, 3)) (by decide) g28_ ?_
        refine re_iloadn (pc := 38) 0 (by decide +kernel : decode cX13_change 38 = .ok (.iload_n 3, 1)) rfl ?_
        cases h
        exact re_iret (fun ty hty => by cases hty; rfl) (by decide +kernel : decode cX13_change 39 = .ok (.ireturn, 1))
theorem metX13_change (n : Nat) (S : rvS) (a0 : Nat) (x1 : Int32) (x2 : Int32) (r : Int32) (S' : rvS) (h : fnX13_change n S a0 x1 x2 = some (r, S')) : rv_Met yX13_change mX13_change 5 [.ref a0, .int x1, .int x2] S (some (.int r)) S' := rv_Met.of ⟨by decide +kernel, rfl, (fun z => by first | rfl | cases z), rfl⟩ (Nat.le_of_ble_eq_true rfl) rfl (eX13_change_in n S a0 x1 x2 r S' h)
noncomputable def fnX13_earned (n : Nat) (S : rvS) (a0 : Nat) (x1 : Int32) : Option (Int32 × rvS) :=
  (rv_pI S 11 a0 0 (0 : Int32)).bind fun S1_ =>
  (rv_ck S1_ 11 a0).bind fun u3_ =>
  (fnX13_lay n S1_ a0).bind fun S6_ =>
  (rv_ck S6_ 11 a0).bind fun u9_ =>
  (fnX13_isWho n S6_ a0 x1).bind fun x12_ =>
  if x12_ = 0 then (
    some ((-1 : Int32), S6_))
  else (
    (rv_ck S6_ 11 a0).bind fun u15_ =>
    (fnX13_ofWho n S6_ a0 x1 (4 : Int32)).bind fun x18_ =>
    some (x18_, S6_))
set_option maxRecDepth 20000 in
set_option maxHeartbeats 4000000 in
theorem eX13_earned_in (n : Nat) (S : rvS) (a0 : Nat) (x1 : Int32) (r : Int32) (S' : rvS) (h : fnX13_earned n S a0 x1 = some (r, S')) : rv_Ev mX13_earned 2 0 [(0, .ref a0), (1, .int x1)] [] S (some (.int r)) S' := by
  unfold fnX13_earned at h
  refine re_aloadn (pc := 0) 0 (by decide +kernel : decode cX13_earned 0 = .ok (.aload_n 0, 1)) rfl ?_
  refine re_iconst (pc := 1) (0 : Int32) (by decide +kernel : decode cX13_earned 1 = .ok (.iconst 0, 1)) (by decide) ?_
  obtain ⟨S1_, g2_, h⟩ := rv_b_e h
  refine re_pI (pc := 2) g2_ lfX13_99 rfl rfl rfl rfl (by decide +kernel : decode cX13_earned 2 = .ok (.putfield 99, 3)) ?_
  refine re_aloadn (pc := 5) 0 (by decide +kernel : decode cX13_earned 5 = .ok (.aload_n 0, 1)) rfl ?_
  obtain ⟨u3_, g4_, h⟩ := rv_b_e h
  obtain ⟨S6_, g7_, h⟩ := rv_b_e h
  have m5_ := metX13_lay n S1_ a0 _ g7_
  have z8_ : rv_same S1_ S6_ := m5_.sh rfl
  refine re_cV (pc := 6) [] m5_ (rv_okl.k z8_) (rv_up.sh z8_) (by decide) (rv_ck_e g4_) ⟨by decide, rfl⟩ (Nat.le_of_ble_eq_true rfl) lVX13_187 rfl (by decide +kernel : decode cX13_earned 6 = .ok (.invokevirtual 187, 3)) ?_
  refine re_aloadn (pc := 9) 0 (by decide +kernel : decode cX13_earned 9 = .ok (.aload_n 0, 1)) rfl ?_
  refine re_iloadn (pc := 10) 1 (by decide +kernel : decode cX13_earned 10 = .ok (.iload_n 1, 1)) rfl ?_
  obtain ⟨u9_, g10_, h⟩ := rv_b_e h
  obtain ⟨x12_, g13_, h⟩ := rv_b_e h
  have m11_ := metX13_isWho n S6_ a0 x1 _ g13_
  refine re_cV (pc := 11) [.int x1] m11_ (rv_okl.k ⟨rfl, rfl⟩) (rv_up.rf _ _) (by decide) (rv_ck_e g10_) ⟨by decide, rfl⟩ (Nat.le_of_ble_eq_true rfl) lVX13_265 rfl (by decide +kernel : decode cX13_earned 11 = .ok (.invokevirtual 265, 3)) ?_
  rcases rv_if_e h with ⟨g14_, h⟩ | ⟨g14_, h⟩
  · refine re_if_eq_t (pc := 14) 26 (by decide +kernel : decode cX13_earned 14 = .ok (.ifCond .eq 12, 3)) (by decide) g14_ ?_
    refine re_iconst (pc := 26) (-1 : Int32) (by decide +kernel : decode cX13_earned 26 = .ok (.iconst (-1), 1)) (by decide) ?_
    cases h
    exact re_iret (fun ty hty => by cases hty; rfl) (by decide +kernel : decode cX13_earned 27 = .ok (.ireturn, 1))
  · refine re_if_eq_f (pc := 14) 26 (by decide +kernel : decode cX13_earned 14 = .ok (.ifCond .eq 12, 3)) (by decide) g14_ ?_
    refine re_aloadn (pc := 17) 0 (by decide +kernel : decode cX13_earned 17 = .ok (.aload_n 0, 1)) rfl ?_
    refine re_iloadn (pc := 18) 1 (by decide +kernel : decode cX13_earned 18 = .ok (.iload_n 1, 1)) rfl ?_
    refine re_iconst (pc := 19) (4 : Int32) (by decide +kernel : decode cX13_earned 19 = .ok (.iconst 4, 1)) (by decide) ?_
    obtain ⟨u15_, g16_, h⟩ := rv_b_e h
    obtain ⟨x18_, g19_, h⟩ := rv_b_e h
    have m17_ := metX13_ofWho n S6_ a0 x1 (4 : Int32) _ g19_
    refine re_cV (pc := 20) [.int x1, .int (4 : Int32)] m17_ (rv_okl.k ⟨rfl, rfl⟩) (rv_up.rf _ _) (by decide) (rv_ck_e g16_) ⟨by decide, rfl⟩ (Nat.le_of_ble_eq_true rfl) lVX13_261 rfl (by decide +kernel : decode cX13_earned 20 = .ok (.invokevirtual 261, 3)) ?_
    refine re_goto (pc := 23) 27 (by decide +kernel : decode cX13_earned 23 = .ok (.goto 4, 3)) (by decide) ?_
    cases h
    exact re_iret (fun ty hty => by cases hty; rfl) (by decide +kernel : decode cX13_earned 27 = .ok (.ireturn, 1))
theorem metX13_earned (n : Nat) (S : rvS) (a0 : Nat) (x1 : Int32) (r : Int32) (S' : rvS) (h : fnX13_earned n S a0 x1 = some (r, S')) : rv_Met yX13_earned mX13_earned 2 [.ref a0, .int x1] S (some (.int r)) S' := rv_Met.of ⟨by decide +kernel, rfl, (fun z => by first | rfl | cases z), rfl⟩ (Nat.le_of_ble_eq_true rfl) rfl (eX13_earned_in n S a0 x1 r S' h)
noncomputable def cX13_changed_75 (n : Nat) (K32 : Nat → Int32 → Int32 → Int32 → Int32 → rvS → Option (Int32 × rvS)) (S : rvS) (a0 : Nat) (x1 : Int32) (x2 : Int32) (x3 : Int32) (x4 : Int32) : Option (Int32 × rvS) :=
  (rv_ck S 11 a0).bind fun u1_ =>
  (fnX13_hold n S a0 x4).bind fun S4_ =>
  (rv_ck S4_ 11 a0).bind fun u7_ =>
  (fnX13_ofCoin n S4_ a0 x1 (1 : Int32)).bind fun x10_ =>
  (rv_ck S4_ 11 a0).bind fun u12_ =>
  (fnX13_pass n S4_ a0 x10_).bind fun S15_ =>
  (rv_ck S15_ 11 a0).bind fun u18_ =>
  (fnX13_whyNot n S15_ a0 x2).bind fun x21_ =>
  if x21_ = 0 then (
    rv_lt (x4 + (1)) fun x26_ =>
    K32 a0 x1 x2 x4 x26_ S15_)
  else (
    rv_lt (x4 + (1)) fun x24_ =>
    K32 a0 x1 x2 x3 x24_ S15_)
set_option maxRecDepth 20000 in
set_option maxHeartbeats 4000000 in
theorem eX13_changed_75 (n : Nat) (K32 : Nat → Int32 → Int32 → Int32 → Int32 → rvS → Option (Int32 × rvS)) (hK32 : ∀ (a0 : Nat) (x1 : Int32) (x2 : Int32) (x3 : Int32) (x4 : Int32) (S : rvS) (r : Int32) (S' : rvS), K32 a0 x1 x2 x3 x4 S = some (r, S') → rv_Ev mX13_changed 5 32 [(0, .ref a0), (1, .int x1), (2, .int x2), (3, .int x3), (4, .int x4)] [] S (some (.int r)) S') (S : rvS) (a0 : Nat) (x1 : Int32) (x2 : Int32) (x3 : Int32) (x4 : Int32) (r : Int32) (S' : rvS) (h : cX13_changed_75 n K32 S a0 x1 x2 x3 x4 = some (r, S')) : rv_Ev mX13_changed 5 75 [(0, .ref a0), (1, .int x1), (2, .int x2), (3, .int x3), (4, .int x4)] [] S (some (.int r)) S' := by
  unfold cX13_changed_75 at h
  refine re_aloadn (pc := 75) 0 (by decide +kernel : decode cX13_changed 75 = .ok (.aload_n 0, 1)) rfl ?_
  refine re_iload (pc := 76) 4 (by decide +kernel : decode cX13_changed 76 = .ok (.iload 4, 2)) rfl ?_
  obtain ⟨u1_, g2_, h⟩ := rv_b_e h
  obtain ⟨S4_, g5_, h⟩ := rv_b_e h
  have m3_ := metX13_hold n S a0 x4 _ g5_
  have z6_ : rv_same S S4_ := m3_.sh rfl
  refine re_cV (pc := 78) [.int x4] m3_ (rv_okl.k z6_) (rv_up.sh z6_) (by decide) (rv_ck_e g2_) ⟨by decide, rfl⟩ (Nat.le_of_ble_eq_true rfl) lVX13_298 rfl (by decide +kernel : decode cX13_changed 78 = .ok (.invokevirtual 298, 3)) ?_
  refine re_aloadn (pc := 81) 0 (by decide +kernel : decode cX13_changed 81 = .ok (.aload_n 0, 1)) rfl ?_
  refine re_aloadn (pc := 82) 0 (by decide +kernel : decode cX13_changed 82 = .ok (.aload_n 0, 1)) rfl ?_
  refine re_iloadn (pc := 83) 1 (by decide +kernel : decode cX13_changed 83 = .ok (.iload_n 1, 1)) rfl ?_
  refine re_iconst (pc := 84) (1 : Int32) (by decide +kernel : decode cX13_changed 84 = .ok (.iconst 1, 1)) (by decide) ?_
  obtain ⟨u7_, g8_, h⟩ := rv_b_e h
  obtain ⟨x10_, g11_, h⟩ := rv_b_e h
  have m9_ := metX13_ofCoin n S4_ a0 x1 (1 : Int32) _ g11_
  refine re_cV (pc := 85) [.int x1, .int (1 : Int32)] m9_ (rv_okl.k ⟨rfl, rfl⟩) (rv_up.rf _ _) (by decide) (rv_ck_e g8_) ⟨by decide, rfl⟩ (Nat.le_of_ble_eq_true rfl) lVX13_271 rfl (by decide +kernel : decode cX13_changed 85 = .ok (.invokevirtual 271, 3)) ?_
  obtain ⟨u12_, g13_, h⟩ := rv_b_e h
  obtain ⟨S15_, g16_, h⟩ := rv_b_e h
  have m14_ := metX13_pass n S4_ a0 x10_ _ g16_
  have z17_ : rv_same S4_ S15_ := m14_.sh rfl
  refine re_cV (pc := 88) [.int x10_] m14_ (rv_okl.k z17_) (rv_up.sh z17_) (by decide) (rv_ck_e g13_) ⟨by decide, rfl⟩ (Nat.le_of_ble_eq_true rfl) lVX13_301 rfl (by decide +kernel : decode cX13_changed 88 = .ok (.invokevirtual 301, 3)) ?_
  refine re_aloadn (pc := 91) 0 (by decide +kernel : decode cX13_changed 91 = .ok (.aload_n 0, 1)) rfl ?_
  refine re_iloadn (pc := 92) 2 (by decide +kernel : decode cX13_changed 92 = .ok (.iload_n 2, 1)) rfl ?_
  obtain ⟨u18_, g19_, h⟩ := rv_b_e h
  obtain ⟨x21_, g22_, h⟩ := rv_b_e h
  have m20_ := metX13_whyNot n S15_ a0 x2 _ g22_
  refine re_cV (pc := 93) [.int x2] m20_ (rv_okl.k ⟨rfl, rfl⟩) (rv_up.rf _ _) (by decide) (rv_ck_e g19_) ⟨by decide, rfl⟩ (Nat.le_of_ble_eq_true rfl) lVX13_304 rfl (by decide +kernel : decode cX13_changed 93 = .ok (.invokevirtual 304, 3)) ?_
  rcases rv_if_e h with ⟨g23_, h⟩ | ⟨g23_, h⟩
  · refine re_if_ne_f (pc := 96) 102 (by decide +kernel : decode cX13_changed 96 = .ok (.ifCond .ne 6, 3)) (by decide) g23_ ?_
    refine re_iload (pc := 99) 4 (by decide +kernel : decode cX13_changed 99 = .ok (.iload 4, 2)) rfl ?_
    refine re_istoren (pc := 101) (lv1 := [(3, .int x4), (0, .ref a0), (1, .int x1), (2, .int x2), (4, .int x4)]) (by decide +kernel : decode cX13_changed 101 = .ok (.istore_n 3, 1)) rfl (by decide) rfl ?_
    obtain ⟨x26_, g27_, h⟩ := rv_lt_e h
    refine re_iinc (pc := 102) 4 x26_ (lv1 := [(4, .int x26_), (3, .int x4), (0, .ref a0), (1, .int x1), (2, .int x2)]) (by decide +kernel : decode cX13_changed 102 = .ok (.iinc 4 1, 3)) rfl g27_ (by decide) rfl ?_
    refine re_goto (pc := 105) 32 (by decide +kernel : decode cX13_changed 105 = .ok (.goto (-73), 3)) (by decide) ?_
    refine re_sub [2, 3, 4, 1, 0] (lv1 := [(0, .ref a0), (1, .int x1), (2, .int x2), (3, .int x4), (4, .int x26_)]) rfl ?_
    exact hK32 a0 x1 x2 x4 x26_ S15_ _ _ h
  · refine re_if_ne_t (pc := 96) 102 (by decide +kernel : decode cX13_changed 96 = .ok (.ifCond .ne 6, 3)) (by decide) g23_ ?_
    obtain ⟨x24_, g25_, h⟩ := rv_lt_e h
    refine re_iinc (pc := 102) 4 x24_ (lv1 := [(4, .int x24_), (0, .ref a0), (1, .int x1), (2, .int x2), (3, .int x3)]) (by decide +kernel : decode cX13_changed 102 = .ok (.iinc 4 1, 3)) rfl g25_ (by decide) rfl ?_
    refine re_goto (pc := 105) 32 (by decide +kernel : decode cX13_changed 105 = .ok (.goto (-73), 3)) (by decide) ?_
    refine re_sub [1, 2, 3, 4, 0] (lv1 := [(0, .ref a0), (1, .int x1), (2, .int x2), (3, .int x3), (4, .int x24_)]) rfl ?_
    exact hK32 a0 x1 x2 x3 x24_ S15_ _ _ h
noncomputable def cX13_changed_32 (n : Nat) : Nat → rvS → Nat → Int32 → Int32 → Int32 → Int32 → Option (Int32 × rvS)
  | 0, _, _, _, _, _, _ => none
  | k + 1, S, a0, x1, x2, x3, x4 =>
    (rv_ck S 11 a0).bind fun u1_ =>
    (fnX13_coins n S a0).bind fun x4_ =>
    if x4_ ≤ x4 then (
      some (x3, S))
    else (
      (rv_ck S 11 a0).bind fun u7_ =>
      rv_bp (fnX13_whyNoChange n S a0 x1 x4) fun x10_ S11_ =>
      if x10_ = 0 then (
        if x3 = (-1 : Int32) then (
          cX13_changed_75 n (fun a0 x1 x2 x3 x4 S => cX13_changed_32 n k S a0 x1 x2 x3 x4) S11_ a0 x1 x2 x3 x4)
        else (
          (rv_ck S11_ 11 a0).bind fun u18_ =>
          (fnX13_ofCoin n S11_ a0 x4 (0 : Int32)).bind fun x21_ =>
          (rv_ck S11_ 11 a0).bind fun u23_ =>
          (fnX13_ofCoin n S11_ a0 x3 (0 : Int32)).bind fun x26_ =>
          if x26_ < x21_ then (
            cX13_changed_75 n (fun a0 x1 x2 x3 x4 S => cX13_changed_32 n k S a0 x1 x2 x3 x4) S11_ a0 x1 x2 x3 x4)
          else (
            rv_lt (x4 + (1)) fun x29_ =>
            cX13_changed_32 n k S11_ a0 x1 x2 x3 x29_)))
      else (
        rv_lt (x4 + (1)) fun x15_ =>
        cX13_changed_32 n k S11_ a0 x1 x2 x3 x15_))
set_option maxRecDepth 20000 in
set_option maxHeartbeats 4000000 in
theorem eX13_changed_32 (n : Nat) : ∀ (k : Nat) (S : rvS) (a0 : Nat) (x1 : Int32) (x2 : Int32) (x3 : Int32) (x4 : Int32) (r : Int32) (S' : rvS), cX13_changed_32 n k S a0 x1 x2 x3 x4 = some (r, S') → rv_Ev mX13_changed 5 32 [(0, .ref a0), (1, .int x1), (2, .int x2), (3, .int x3), (4, .int x4)] [] S (some (.int r)) S' := by
  intro k
  induction k with
  | zero => intro S a0 x1 x2 x3 x4 r S' h; exact absurd h (by simp [cX13_changed_32])
  | succ k ih =>
    intro S a0 x1 x2 x3 x4 r S' h
    unfold cX13_changed_32 at h
    refine re_iload (pc := 32) 4 (by decide +kernel : decode cX13_changed 32 = .ok (.iload 4, 2)) rfl ?_
    refine re_aloadn (pc := 34) 0 (by decide +kernel : decode cX13_changed 34 = .ok (.aload_n 0, 1)) rfl ?_
    obtain ⟨u1_, g2_, h⟩ := rv_b_e h
    obtain ⟨x4_, g5_, h⟩ := rv_b_e h
    have m3_ := metX13_coins n S a0 _ g5_
    refine re_cV (pc := 35) [] m3_ (rv_okl.k ⟨rfl, rfl⟩) (rv_up.rf _ _) (by decide) (rv_ck_e g2_) ⟨by decide, rfl⟩ (Nat.le_of_ble_eq_true rfl) lVX13_258 rfl (by decide +kernel : decode cX13_changed 35 = .ok (.invokevirtual 258, 3)) ?_
    rcases rv_if_e h with ⟨g6_, h⟩ | ⟨g6_, h⟩
    · refine re_icmp_ge_t (pc := 38) 108 (by decide +kernel : decode cX13_changed 38 = .ok (.if_icmp .ge 70, 3)) (by decide) g6_ ?_
      refine re_iloadn (pc := 108) 3 (by decide +kernel : decode cX13_changed 108 = .ok (.iload_n 3, 1)) rfl ?_
      cases h
      exact re_iret (fun ty hty => by cases hty; rfl) (by decide +kernel : decode cX13_changed 109 = .ok (.ireturn, 1))
    · refine re_icmp_ge_f (pc := 38) 108 (by decide +kernel : decode cX13_changed 38 = .ok (.if_icmp .ge 70, 3)) (by decide) g6_ ?_
      refine re_aloadn (pc := 41) 0 (by decide +kernel : decode cX13_changed 41 = .ok (.aload_n 0, 1)) rfl ?_
      refine re_iloadn (pc := 42) 1 (by decide +kernel : decode cX13_changed 42 = .ok (.iload_n 1, 1)) rfl ?_
      refine re_iload (pc := 43) 4 (by decide +kernel : decode cX13_changed 43 = .ok (.iload 4, 2)) rfl ?_
      obtain ⟨u7_, g8_, h⟩ := rv_b_e h
      obtain ⟨x10_, S11_, g12_, h⟩ := rv_bp_e h
      have m9_ := metX13_whyNoChange n S a0 x1 x4 _ _ g12_
      have z13_ : rv_same S S11_ := m9_.sh rfl
      refine re_cV (pc := 45) [.int x1, .int x4] m9_ (rv_okl.k z13_) (rv_up.sh z13_) (by decide) (rv_ck_e g8_) ⟨by decide, rfl⟩ (Nat.le_of_ble_eq_true rfl) lVX13_350 rfl (by decide +kernel : decode cX13_changed 45 = .ok (.invokevirtual 350, 3)) ?_
      rcases rv_if_e h with ⟨g14_, h⟩ | ⟨g14_, h⟩
      · refine re_if_ne_f (pc := 48) 102 (by decide +kernel : decode cX13_changed 48 = .ok (.ifCond .ne 54, 3)) (by decide) g14_ ?_
        refine re_iloadn (pc := 51) 3 (by decide +kernel : decode cX13_changed 51 = .ok (.iload_n 3, 1)) rfl ?_
        refine re_iconst (pc := 52) (-1 : Int32) (by decide +kernel : decode cX13_changed 52 = .ok (.iconst (-1), 1)) (by decide) ?_
        rcases rv_if_e h with ⟨g17_, h⟩ | ⟨g17_, h⟩
        · refine re_icmp_eq_t (pc := 53) 75 (by decide +kernel : decode cX13_changed 53 = .ok (.if_icmp .eq 22, 3)) (by decide) g17_ ?_
          exact eX13_changed_75 n (fun a0 x1 x2 x3 x4 S => cX13_changed_32 n k S a0 x1 x2 x3 x4) (fun a0 x1 x2 x3 x4 S _ _ h => ih S a0 x1 x2 x3 x4 _ _ h) S11_ a0 x1 x2 x3 x4 _ _ h
        · refine re_icmp_eq_f (pc := 53) 75 (by decide +kernel : decode cX13_changed 53 = .ok (.if_icmp .eq 22, 3)) (by decide) g17_ ?_
          refine re_aloadn (pc := 56) 0 (by decide +kernel : decode cX13_changed 56 = .ok (.aload_n 0, 1)) rfl ?_
          refine re_iload (pc := 57) 4 (by decide +kernel : decode cX13_changed 57 = .ok (.iload 4, 2)) rfl ?_
          refine re_iconst (pc := 59) (0 : Int32) (by decide +kernel : decode cX13_changed 59 = .ok (.iconst 0, 1)) (by decide) ?_
          obtain ⟨u18_, g19_, h⟩ := rv_b_e h
          obtain ⟨x21_, g22_, h⟩ := rv_b_e h
          have m20_ := metX13_ofCoin n S11_ a0 x4 (0 : Int32) _ g22_
          refine re_cV (pc := 60) [.int x4, .int (0 : Int32)] m20_ (rv_okl.k ⟨rfl, rfl⟩) (rv_up.rf _ _) (by decide) (rv_ck_e g19_) ⟨by decide, rfl⟩ (Nat.le_of_ble_eq_true rfl) lVX13_271 rfl (by decide +kernel : decode cX13_changed 60 = .ok (.invokevirtual 271, 3)) ?_
          refine re_aloadn (pc := 63) 0 (by decide +kernel : decode cX13_changed 63 = .ok (.aload_n 0, 1)) rfl ?_
          refine re_iloadn (pc := 64) 3 (by decide +kernel : decode cX13_changed 64 = .ok (.iload_n 3, 1)) rfl ?_
          refine re_iconst (pc := 65) (0 : Int32) (by decide +kernel : decode cX13_changed 65 = .ok (.iconst 0, 1)) (by decide) ?_
          obtain ⟨u23_, g24_, h⟩ := rv_b_e h
          obtain ⟨x26_, g27_, h⟩ := rv_b_e h
          have m25_ := metX13_ofCoin n S11_ a0 x3 (0 : Int32) _ g27_
          refine re_cV (pc := 66) [.int x3, .int (0 : Int32)] m25_ (rv_okl.k ⟨rfl, rfl⟩) (rv_up.rf _ _) (by decide) (rv_ck_e g24_) ⟨by decide, rfl⟩ (Nat.le_of_ble_eq_true rfl) lVX13_271 rfl (by decide +kernel : decode cX13_changed 66 = .ok (.invokevirtual 271, 3)) ?_
          rcases rv_if_e h with ⟨g28_, h⟩ | ⟨g28_, h⟩
          · refine re_icmp_gt_t (pc := 69) 75 (by decide +kernel : decode cX13_changed 69 = .ok (.if_icmp .gt 6, 3)) (by decide) g28_ ?_
            exact eX13_changed_75 n (fun a0 x1 x2 x3 x4 S => cX13_changed_32 n k S a0 x1 x2 x3 x4) (fun a0 x1 x2 x3 x4 S _ _ h => ih S a0 x1 x2 x3 x4 _ _ h) S11_ a0 x1 x2 x3 x4 _ _ h
          · refine re_icmp_gt_f (pc := 69) 75 (by decide +kernel : decode cX13_changed 69 = .ok (.if_icmp .gt 6, 3)) (by decide) g28_ ?_
            refine re_goto (pc := 72) 102 (by decide +kernel : decode cX13_changed 72 = .ok (.goto 30, 3)) (by decide) ?_
            obtain ⟨x29_, g30_, h⟩ := rv_lt_e h
            refine re_iinc (pc := 102) 4 x29_ (lv1 := [(4, .int x29_), (0, .ref a0), (1, .int x1), (2, .int x2), (3, .int x3)]) (by decide +kernel : decode cX13_changed 102 = .ok (.iinc 4 1, 3)) rfl g30_ (by decide) rfl ?_
            refine re_goto (pc := 105) 32 (by decide +kernel : decode cX13_changed 105 = .ok (.goto (-73), 3)) (by decide) ?_
            refine re_sub [1, 2, 3, 4, 0] (lv1 := [(0, .ref a0), (1, .int x1), (2, .int x2), (3, .int x3), (4, .int x29_)]) rfl ?_
            exact ih S11_ a0 x1 x2 x3 x29_ _ _ h
      · refine re_if_ne_t (pc := 48) 102 (by decide +kernel : decode cX13_changed 48 = .ok (.ifCond .ne 54, 3)) (by decide) g14_ ?_
        obtain ⟨x15_, g16_, h⟩ := rv_lt_e h
        refine re_iinc (pc := 102) 4 x15_ (lv1 := [(4, .int x15_), (0, .ref a0), (1, .int x1), (2, .int x2), (3, .int x3)]) (by decide +kernel : decode cX13_changed 102 = .ok (.iinc 4 1, 3)) rfl g16_ (by decide) rfl ?_
        refine re_goto (pc := 105) 32 (by decide +kernel : decode cX13_changed 105 = .ok (.goto (-73), 3)) (by decide) ?_
        refine re_sub [1, 2, 3, 4, 0] (lv1 := [(0, .ref a0), (1, .int x1), (2, .int x2), (3, .int x3), (4, .int x15_)]) rfl ?_
        exact ih S11_ a0 x1 x2 x3 x15_ _ _ h
noncomputable def fnX13_changed (n : Nat) (S : rvS) (a0 : Nat) (x1 : Int32) (x2 : Int32) : Option (Int32 × rvS) :=
  (rv_pI S 11 a0 0 (0 : Int32)).bind fun S1_ =>
  (rv_ck S1_ 11 a0).bind fun u3_ =>
  (fnX13_lay n S1_ a0).bind fun S6_ =>
  (rv_ck S6_ 11 a0).bind fun u9_ =>
  (fnX13_isCoin n S6_ a0 x1).bind fun x12_ =>
  if x12_ = 0 then (
    some ((-1 : Int32), S6_))
  else (
    (rv_ck S6_ 11 a0).bind fun u15_ =>
    (fnX13_isWho n S6_ a0 x2).bind fun x18_ =>
    if x18_ = 0 then (
      some ((-1 : Int32), S6_))
    else (
      cX13_changed_32 n n S6_ a0 x1 x2 (-1 : Int32) (0 : Int32)))
set_option maxRecDepth 20000 in
set_option maxHeartbeats 4000000 in
theorem eX13_changed_in (n : Nat) (S : rvS) (a0 : Nat) (x1 : Int32) (x2 : Int32) (r : Int32) (S' : rvS) (h : fnX13_changed n S a0 x1 x2 = some (r, S')) : rv_Ev mX13_changed 5 0 [(0, .ref a0), (1, .int x1), (2, .int x2)] [] S (some (.int r)) S' := by
  unfold fnX13_changed at h
  refine re_aloadn (pc := 0) 0 (by decide +kernel : decode cX13_changed 0 = .ok (.aload_n 0, 1)) rfl ?_
  refine re_iconst (pc := 1) (0 : Int32) (by decide +kernel : decode cX13_changed 1 = .ok (.iconst 0, 1)) (by decide) ?_
  obtain ⟨S1_, g2_, h⟩ := rv_b_e h
  refine re_pI (pc := 2) g2_ lfX13_99 rfl rfl rfl rfl (by decide +kernel : decode cX13_changed 2 = .ok (.putfield 99, 3)) ?_
  refine re_aloadn (pc := 5) 0 (by decide +kernel : decode cX13_changed 5 = .ok (.aload_n 0, 1)) rfl ?_
  obtain ⟨u3_, g4_, h⟩ := rv_b_e h
  obtain ⟨S6_, g7_, h⟩ := rv_b_e h
  have m5_ := metX13_lay n S1_ a0 _ g7_
  have z8_ : rv_same S1_ S6_ := m5_.sh rfl
  refine re_cV (pc := 6) [] m5_ (rv_okl.k z8_) (rv_up.sh z8_) (by decide) (rv_ck_e g4_) ⟨by decide, rfl⟩ (Nat.le_of_ble_eq_true rfl) lVX13_187 rfl (by decide +kernel : decode cX13_changed 6 = .ok (.invokevirtual 187, 3)) ?_
  refine re_aloadn (pc := 9) 0 (by decide +kernel : decode cX13_changed 9 = .ok (.aload_n 0, 1)) rfl ?_
  refine re_iloadn (pc := 10) 1 (by decide +kernel : decode cX13_changed 10 = .ok (.iload_n 1, 1)) rfl ?_
  obtain ⟨u9_, g10_, h⟩ := rv_b_e h
  obtain ⟨x12_, g13_, h⟩ := rv_b_e h
  have m11_ := metX13_isCoin n S6_ a0 x1 _ g13_
  refine re_cV (pc := 11) [.int x1] m11_ (rv_okl.k ⟨rfl, rfl⟩) (rv_up.rf _ _) (by decide) (rv_ck_e g10_) ⟨by decide, rfl⟩ (Nat.le_of_ble_eq_true rfl) lVX13_277 rfl (by decide +kernel : decode cX13_changed 11 = .ok (.invokevirtual 277, 3)) ?_
  rcases rv_if_e h with ⟨g14_, h⟩ | ⟨g14_, h⟩
  · refine re_if_eq_t (pc := 14) 25 (by decide +kernel : decode cX13_changed 14 = .ok (.ifCond .eq 11, 3)) (by decide) g14_ ?_
    refine re_iconst (pc := 25) (-1 : Int32) (by decide +kernel : decode cX13_changed 25 = .ok (.iconst (-1), 1)) (by decide) ?_
    cases h
    exact re_iret (fun ty hty => by cases hty; rfl) (by decide +kernel : decode cX13_changed 26 = .ok (.ireturn, 1))
  · refine re_if_eq_f (pc := 14) 25 (by decide +kernel : decode cX13_changed 14 = .ok (.ifCond .eq 11, 3)) (by decide) g14_ ?_
    refine re_aloadn (pc := 17) 0 (by decide +kernel : decode cX13_changed 17 = .ok (.aload_n 0, 1)) rfl ?_
    refine re_iloadn (pc := 18) 2 (by decide +kernel : decode cX13_changed 18 = .ok (.iload_n 2, 1)) rfl ?_
    obtain ⟨u15_, g16_, h⟩ := rv_b_e h
    obtain ⟨x18_, g19_, h⟩ := rv_b_e h
    have m17_ := metX13_isWho n S6_ a0 x2 _ g19_
    refine re_cV (pc := 19) [.int x2] m17_ (rv_okl.k ⟨rfl, rfl⟩) (rv_up.rf _ _) (by decide) (rv_ck_e g16_) ⟨by decide, rfl⟩ (Nat.le_of_ble_eq_true rfl) lVX13_265 rfl (by decide +kernel : decode cX13_changed 19 = .ok (.invokevirtual 265, 3)) ?_
    rcases rv_if_e h with ⟨g20_, h⟩ | ⟨g20_, h⟩
    · refine re_if_ne_f (pc := 22) 27 (by decide +kernel : decode cX13_changed 22 = .ok (.ifCond .ne 5, 3)) (by decide) g20_ ?_
      refine re_iconst (pc := 25) (-1 : Int32) (by decide +kernel : decode cX13_changed 25 = .ok (.iconst (-1), 1)) (by decide) ?_
      cases h
      exact re_iret (fun ty hty => by cases hty; rfl) (by decide +kernel : decode cX13_changed 26 = .ok (.ireturn, 1))
    · refine re_if_ne_t (pc := 22) 27 (by decide +kernel : decode cX13_changed 22 = .ok (.ifCond .ne 5, 3)) (by decide) g20_ ?_
      refine re_iconst (pc := 27) (-1 : Int32) (by decide +kernel : decode cX13_changed 27 = .ok (.iconst (-1), 1)) (by decide) ?_
      refine re_istoren (pc := 28) (lv1 := [(3, .int (-1 : Int32)), (0, .ref a0), (1, .int x1), (2, .int x2)]) (by decide +kernel : decode cX13_changed 28 = .ok (.istore_n 3, 1)) rfl (by decide) rfl ?_
      refine re_iconst (pc := 29) (0 : Int32) (by decide +kernel : decode cX13_changed 29 = .ok (.iconst 0, 1)) (by decide) ?_
      refine re_istore (pc := 30) (lv1 := [(4, .int (0 : Int32)), (3, .int (-1 : Int32)), (0, .ref a0), (1, .int x1), (2, .int x2)]) (by decide +kernel : decode cX13_changed 30 = .ok (.istore 4, 2)) (by decide) rfl ?_
      refine re_sub [2, 3, 4, 1, 0] (lv1 := [(0, .ref a0), (1, .int x1), (2, .int x2), (3, .int (-1 : Int32)), (4, .int (0 : Int32))]) rfl ?_
      exact eX13_changed_32 n n S6_ a0 x1 x2 (-1 : Int32) (0 : Int32) _ _ h
theorem metX13_changed (n : Nat) (S : rvS) (a0 : Nat) (x1 : Int32) (x2 : Int32) (r : Int32) (S' : rvS) (h : fnX13_changed n S a0 x1 x2 = some (r, S')) : rv_Met yX13_changed mX13_changed 5 [.ref a0, .int x1, .int x2] S (some (.int r)) S' := rv_Met.of ⟨by decide +kernel, rfl, (fun z => by first | rfl | cases z), rfl⟩ (Nat.le_of_ble_eq_true rfl) rfl (eX13_changed_in n S a0 x1 x2 r S' h)
noncomputable def fnX13_steal (n : Nat) (S : rvS) (a0 : Nat) (x1 : Int32) (x2 : Int32) : Option (Int32 × rvS) :=
  (rv_pI S 11 a0 0 (0 : Int32)).bind fun S1_ =>
  (rv_ck S1_ 11 a0).bind fun u3_ =>
  (fnX13_lay n S1_ a0).bind fun S6_ =>
  (rv_ck S6_ 11 a0).bind fun u9_ =>
  (fnX13_isWho n S6_ a0 x1).bind fun x12_ =>
  if x12_ = 0 then (
    some ((0 : Int32), S6_))
  else (
    (rv_ck S6_ 11 a0).bind fun u15_ =>
    (fnX13_isCoin n S6_ a0 x2).bind fun x18_ =>
    if x18_ = 0 then (
      some ((0 : Int32), S6_))
    else (
      (rv_ck S6_ 11 a0).bind fun u21_ =>
      (fnX13_ofCoin n S6_ a0 x2 (1 : Int32)).bind fun x24_ =>
      if x24_ = x1 then (
        some ((0 : Int32), S6_))
      else (
        (rv_ck S6_ 11 a0).bind fun u27_ =>
        (fnX13_isDead n S6_ a0 x1).bind fun x30_ =>
        if x30_ = 0 then (
          (rv_gR S6_ 11 a0 14).bind fun a33_ =>
          (rv_uI S6_ a33_ (((132 : Int32) + ((6 : Int32) * x2)) + (1 : Int32)) x1).bind fun S35_ =>
          some ((1 : Int32), S35_))
        else (
          some ((0 : Int32), S6_)))))
set_option maxRecDepth 20000 in
set_option maxHeartbeats 4000000 in
theorem eX13_steal_in (n : Nat) (S : rvS) (a0 : Nat) (x1 : Int32) (x2 : Int32) (r : Int32) (S' : rvS) (h : fnX13_steal n S a0 x1 x2 = some (r, S')) : rv_Ev mX13_steal 2 0 [(0, .ref a0), (1, .int x1), (2, .int x2)] [] S (some (.int r)) S' := by
  unfold fnX13_steal at h
  refine re_aloadn (pc := 0) 0 (by decide +kernel : decode cX13_steal 0 = .ok (.aload_n 0, 1)) rfl ?_
  refine re_iconst (pc := 1) (0 : Int32) (by decide +kernel : decode cX13_steal 1 = .ok (.iconst 0, 1)) (by decide) ?_
  obtain ⟨S1_, g2_, h⟩ := rv_b_e h
  refine re_pI (pc := 2) g2_ lfX13_99 rfl rfl rfl rfl (by decide +kernel : decode cX13_steal 2 = .ok (.putfield 99, 3)) ?_
  refine re_aloadn (pc := 5) 0 (by decide +kernel : decode cX13_steal 5 = .ok (.aload_n 0, 1)) rfl ?_
  obtain ⟨u3_, g4_, h⟩ := rv_b_e h
  obtain ⟨S6_, g7_, h⟩ := rv_b_e h
  have m5_ := metX13_lay n S1_ a0 _ g7_
  have z8_ : rv_same S1_ S6_ := m5_.sh rfl
  refine re_cV (pc := 6) [] m5_ (rv_okl.k z8_) (rv_up.sh z8_) (by decide) (rv_ck_e g4_) ⟨by decide, rfl⟩ (Nat.le_of_ble_eq_true rfl) lVX13_187 rfl (by decide +kernel : decode cX13_steal 6 = .ok (.invokevirtual 187, 3)) ?_
  refine re_aloadn (pc := 9) 0 (by decide +kernel : decode cX13_steal 9 = .ok (.aload_n 0, 1)) rfl ?_
  refine re_iloadn (pc := 10) 1 (by decide +kernel : decode cX13_steal 10 = .ok (.iload_n 1, 1)) rfl ?_
  obtain ⟨u9_, g10_, h⟩ := rv_b_e h
  obtain ⟨x12_, g13_, h⟩ := rv_b_e h
  have m11_ := metX13_isWho n S6_ a0 x1 _ g13_
  refine re_cV (pc := 11) [.int x1] m11_ (rv_okl.k ⟨rfl, rfl⟩) (rv_up.rf _ _) (by decide) (rv_ck_e g10_) ⟨by decide, rfl⟩ (Nat.le_of_ble_eq_true rfl) lVX13_265 rfl (by decide +kernel : decode cX13_steal 11 = .ok (.invokevirtual 265, 3)) ?_
  rcases rv_if_e h with ⟨g14_, h⟩ | ⟨g14_, h⟩
  · refine re_if_eq_t (pc := 14) 43 (by decide +kernel : decode cX13_steal 14 = .ok (.ifCond .eq 29, 3)) (by decide) g14_ ?_
    refine re_iconst (pc := 43) (0 : Int32) (by decide +kernel : decode cX13_steal 43 = .ok (.iconst 0, 1)) (by decide) ?_
    cases h
    exact re_iret (fun ty hty => by cases hty; rfl) (by decide +kernel : decode cX13_steal 44 = .ok (.ireturn, 1))
  · refine re_if_eq_f (pc := 14) 43 (by decide +kernel : decode cX13_steal 14 = .ok (.ifCond .eq 29, 3)) (by decide) g14_ ?_
    refine re_aloadn (pc := 17) 0 (by decide +kernel : decode cX13_steal 17 = .ok (.aload_n 0, 1)) rfl ?_
    refine re_iloadn (pc := 18) 2 (by decide +kernel : decode cX13_steal 18 = .ok (.iload_n 2, 1)) rfl ?_
    obtain ⟨u15_, g16_, h⟩ := rv_b_e h
    obtain ⟨x18_, g19_, h⟩ := rv_b_e h
    have m17_ := metX13_isCoin n S6_ a0 x2 _ g19_
    refine re_cV (pc := 19) [.int x2] m17_ (rv_okl.k ⟨rfl, rfl⟩) (rv_up.rf _ _) (by decide) (rv_ck_e g16_) ⟨by decide, rfl⟩ (Nat.le_of_ble_eq_true rfl) lVX13_277 rfl (by decide +kernel : decode cX13_steal 19 = .ok (.invokevirtual 277, 3)) ?_
    rcases rv_if_e h with ⟨g20_, h⟩ | ⟨g20_, h⟩
    · refine re_if_eq_t (pc := 22) 43 (by decide +kernel : decode cX13_steal 22 = .ok (.ifCond .eq 21, 3)) (by decide) g20_ ?_
      refine re_iconst (pc := 43) (0 : Int32) (by decide +kernel : decode cX13_steal 43 = .ok (.iconst 0, 1)) (by decide) ?_
      cases h
      exact re_iret (fun ty hty => by cases hty; rfl) (by decide +kernel : decode cX13_steal 44 = .ok (.ireturn, 1))
    · refine re_if_eq_f (pc := 22) 43 (by decide +kernel : decode cX13_steal 22 = .ok (.ifCond .eq 21, 3)) (by decide) g20_ ?_
      refine re_aloadn (pc := 25) 0 (by decide +kernel : decode cX13_steal 25 = .ok (.aload_n 0, 1)) rfl ?_
      refine re_iloadn (pc := 26) 2 (by decide +kernel : decode cX13_steal 26 = .ok (.iload_n 2, 1)) rfl ?_
      refine re_iconst (pc := 27) (1 : Int32) (by decide +kernel : decode cX13_steal 27 = .ok (.iconst 1, 1)) (by decide) ?_
      obtain ⟨u21_, g22_, h⟩ := rv_b_e h
      obtain ⟨x24_, g25_, h⟩ := rv_b_e h
      have m23_ := metX13_ofCoin n S6_ a0 x2 (1 : Int32) _ g25_
      refine re_cV (pc := 28) [.int x2, .int (1 : Int32)] m23_ (rv_okl.k ⟨rfl, rfl⟩) (rv_up.rf _ _) (by decide) (rv_ck_e g22_) ⟨by decide, rfl⟩ (Nat.le_of_ble_eq_true rfl) lVX13_271 rfl (by decide +kernel : decode cX13_steal 28 = .ok (.invokevirtual 271, 3)) ?_
      refine re_iloadn (pc := 31) 1 (by decide +kernel : decode cX13_steal 31 = .ok (.iload_n 1, 1)) rfl ?_
      rcases rv_if_e h with ⟨g26_, h⟩ | ⟨g26_, h⟩
      · refine re_icmp_eq_t (pc := 32) 43 (by decide +kernel : decode cX13_steal 32 = .ok (.if_icmp .eq 11, 3)) (by decide) g26_ ?_
        refine re_iconst (pc := 43) (0 : Int32) (by decide +kernel : decode cX13_steal 43 = .ok (.iconst 0, 1)) (by decide) ?_
        cases h
        exact re_iret (fun ty hty => by cases hty; rfl) (by decide +kernel : decode cX13_steal 44 = .ok (.ireturn, 1))
      · refine re_icmp_eq_f (pc := 32) 43 (by decide +kernel : decode cX13_steal 32 = .ok (.if_icmp .eq 11, 3)) (by decide) g26_ ?_
        refine re_aloadn (pc := 35) 0 (by decide +kernel : decode cX13_steal 35 = .ok (.aload_n 0, 1)) rfl ?_
        refine re_iloadn (pc := 36) 1 (by decide +kernel : decode cX13_steal 36 = .ok (.iload_n 1, 1)) rfl ?_
        obtain ⟨u27_, g28_, h⟩ := rv_b_e h
        obtain ⟨x30_, g31_, h⟩ := rv_b_e h
        have m29_ := metX13_isDead n S6_ a0 x1 _ g31_
        refine re_cV (pc := 37) [.int x1] m29_ (rv_okl.k ⟨rfl, rfl⟩) (rv_up.rf _ _) (by decide) (rv_ck_e g28_) ⟨by decide, rfl⟩ (Nat.le_of_ble_eq_true rfl) lVX13_292 rfl (by decide +kernel : decode cX13_steal 37 = .ok (.invokevirtual 292, 3)) ?_
        rcases rv_if_e h with ⟨g32_, h⟩ | ⟨g32_, h⟩
        · refine re_if_eq_t (pc := 40) 45 (by decide +kernel : decode cX13_steal 40 = .ok (.ifCond .eq 5, 3)) (by decide) g32_ ?_
          refine re_aloadn (pc := 45) 0 (by decide +kernel : decode cX13_steal 45 = .ok (.aload_n 0, 1)) rfl ?_
          obtain ⟨a33_, g34_, h⟩ := rv_b_e h
          refine re_gR (pc := 46) g34_ lfX13_13 rfl (by decide +kernel : decode cX13_steal 46 = .ok (.getfield 13, 3)) ?_
          refine re_sipush (pc := 49) (132 : Int32) (by decide +kernel : decode cX13_steal 49 = .ok (.sipush 132, 3)) (by decide) ?_
          refine re_bipush (pc := 52) (6 : Int32) (by decide +kernel : decode cX13_steal 52 = .ok (.bipush 6, 2)) (by decide) ?_
          refine re_iloadn (pc := 54) 2 (by decide +kernel : decode cX13_steal 54 = .ok (.iload_n 2, 1)) rfl ?_
          refine re_imul (pc := 55) (by decide +kernel : decode cX13_steal 55 = .ok (.imul, 1)) ?_
          refine re_iadd (pc := 56) (by decide +kernel : decode cX13_steal 56 = .ok (.iadd, 1)) ?_
          refine re_iconst (pc := 57) (1 : Int32) (by decide +kernel : decode cX13_steal 57 = .ok (.iconst 1, 1)) (by decide) ?_
          refine re_iadd (pc := 58) (by decide +kernel : decode cX13_steal 58 = .ok (.iadd, 1)) ?_
          refine re_iloadn (pc := 59) 1 (by decide +kernel : decode cX13_steal 59 = .ok (.iload_n 1, 1)) rfl ?_
          obtain ⟨S35_, g36_, h⟩ := rv_b_e h
          refine re_uI (pc := 60) g36_ (by decide +kernel : decode cX13_steal 60 = .ok (.iastore, 1)) ?_
          refine re_iconst (pc := 61) (1 : Int32) (by decide +kernel : decode cX13_steal 61 = .ok (.iconst 1, 1)) (by decide) ?_
          cases h
          exact re_iret (fun ty hty => by cases hty; rfl) (by decide +kernel : decode cX13_steal 62 = .ok (.ireturn, 1))
        · refine re_if_eq_f (pc := 40) 45 (by decide +kernel : decode cX13_steal 40 = .ok (.ifCond .eq 5, 3)) (by decide) g32_ ?_
          refine re_iconst (pc := 43) (0 : Int32) (by decide +kernel : decode cX13_steal 43 = .ok (.iconst 0, 1)) (by decide) ?_
          cases h
          exact re_iret (fun ty hty => by cases hty; rfl) (by decide +kernel : decode cX13_steal 44 = .ok (.ireturn, 1))
theorem metX13_steal (n : Nat) (S : rvS) (a0 : Nat) (x1 : Int32) (x2 : Int32) (r : Int32) (S' : rvS) (h : fnX13_steal n S a0 x1 x2 = some (r, S')) : rv_Met yX13_steal mX13_steal 2 [.ref a0, .int x1, .int x2] S (some (.int r)) S' := rv_Met.of ⟨by decide +kernel, rfl, (fun z => by first | rfl | cases z), rfl⟩ (Nat.le_of_ble_eq_true rfl) rfl (eX13_steal_in n S a0 x1 x2 r S' h)
noncomputable def fnX13_wed (n : Nat) (S : rvS) (a0 : Nat) (x1 : Int32) (x2 : Int32) : Option (Int32 × rvS) :=
  (rv_pI S 11 a0 0 (0 : Int32)).bind fun S1_ =>
  (rv_ck S1_ 11 a0).bind fun u3_ =>
  (fnX13_lay n S1_ a0).bind fun S6_ =>
  (rv_ck S6_ 11 a0).bind fun u9_ =>
  (fnX13_isWho n S6_ a0 x1).bind fun x12_ =>
  if x12_ = 0 then (
    some ((0 : Int32), S6_))
  else (
    (rv_ck S6_ 11 a0).bind fun u15_ =>
    (fnX13_isWho n S6_ a0 x2).bind fun x18_ =>
    if x18_ = 0 then (
      some ((0 : Int32), S6_))
    else (
      if x1 = x2 then (
        some ((0 : Int32), S6_))
      else (
        (rv_ck S6_ 11 a0).bind fun u22_ =>
        (fnX13_isDead n S6_ a0 x1).bind fun x25_ =>
        if x25_ = 0 then (
          (rv_ck S6_ 11 a0).bind fun u28_ =>
          (fnX13_isDead n S6_ a0 x2).bind fun x31_ =>
          if x31_ = 0 then (
            (rv_ck S6_ 11 a0).bind fun u34_ =>
            (fnX13_ofWho n S6_ a0 x1 (1 : Int32)).bind fun x37_ =>
            if 0 < x37_ then (
              some ((0 : Int32), S6_))
            else (
              (rv_ck S6_ 11 a0).bind fun u40_ =>
              (fnX13_ofWho n S6_ a0 x2 (1 : Int32)).bind fun x43_ =>
              if x43_ ≤ 0 then (
                (rv_gR S6_ 11 a0 14).bind fun a46_ =>
                (rv_uI S6_ a46_ (((8 : Int32) + ((5 : Int32) * x1)) + (1 : Int32)) (x2 + (1 : Int32))).bind fun S48_ =>
                (rv_gR S48_ 11 a0 14).bind fun a50_ =>
                (rv_uI S48_ a50_ (((8 : Int32) + ((5 : Int32) * x2)) + (1 : Int32)) (x1 + (1 : Int32))).bind fun S52_ =>
                some ((1 : Int32), S52_))
              else (
                some ((0 : Int32), S6_))))
          else (
            some ((0 : Int32), S6_)))
        else (
          some ((0 : Int32), S6_)))))
set_option maxRecDepth 20000 in
set_option maxHeartbeats 4000000 in
theorem eX13_wed_in (n : Nat) (S : rvS) (a0 : Nat) (x1 : Int32) (x2 : Int32) (r : Int32) (S' : rvS) (h : fnX13_wed n S a0 x1 x2 = some (r, S')) : rv_Ev mX13_wed 2 0 [(0, .ref a0), (1, .int x1), (2, .int x2)] [] S (some (.int r)) S' := by
  unfold fnX13_wed at h
  refine re_aloadn (pc := 0) 0 (by decide +kernel : decode cX13_wed 0 = .ok (.aload_n 0, 1)) rfl ?_
  refine re_iconst (pc := 1) (0 : Int32) (by decide +kernel : decode cX13_wed 1 = .ok (.iconst 0, 1)) (by decide) ?_
  obtain ⟨S1_, g2_, h⟩ := rv_b_e h
  refine re_pI (pc := 2) g2_ lfX13_99 rfl rfl rfl rfl (by decide +kernel : decode cX13_wed 2 = .ok (.putfield 99, 3)) ?_
  refine re_aloadn (pc := 5) 0 (by decide +kernel : decode cX13_wed 5 = .ok (.aload_n 0, 1)) rfl ?_
  obtain ⟨u3_, g4_, h⟩ := rv_b_e h
  obtain ⟨S6_, g7_, h⟩ := rv_b_e h
  have m5_ := metX13_lay n S1_ a0 _ g7_
  have z8_ : rv_same S1_ S6_ := m5_.sh rfl
  refine re_cV (pc := 6) [] m5_ (rv_okl.k z8_) (rv_up.sh z8_) (by decide) (rv_ck_e g4_) ⟨by decide, rfl⟩ (Nat.le_of_ble_eq_true rfl) lVX13_187 rfl (by decide +kernel : decode cX13_wed 6 = .ok (.invokevirtual 187, 3)) ?_
  refine re_aloadn (pc := 9) 0 (by decide +kernel : decode cX13_wed 9 = .ok (.aload_n 0, 1)) rfl ?_
  refine re_iloadn (pc := 10) 1 (by decide +kernel : decode cX13_wed 10 = .ok (.iload_n 1, 1)) rfl ?_
  obtain ⟨u9_, g10_, h⟩ := rv_b_e h
  obtain ⟨x12_, g13_, h⟩ := rv_b_e h
  have m11_ := metX13_isWho n S6_ a0 x1 _ g13_
  refine re_cV (pc := 11) [.int x1] m11_ (rv_okl.k ⟨rfl, rfl⟩) (rv_up.rf _ _) (by decide) (rv_ck_e g10_) ⟨by decide, rfl⟩ (Nat.le_of_ble_eq_true rfl) lVX13_265 rfl (by decide +kernel : decode cX13_wed 11 = .ok (.invokevirtual 265, 3)) ?_
  rcases rv_if_e h with ⟨g14_, h⟩ | ⟨g14_, h⟩
  · refine re_if_eq_t (pc := 14) 64 (by decide +kernel : decode cX13_wed 14 = .ok (.ifCond .eq 50, 3)) (by decide) g14_ ?_
    refine re_iconst (pc := 64) (0 : Int32) (by decide +kernel : decode cX13_wed 64 = .ok (.iconst 0, 1)) (by decide) ?_
    cases h
    exact re_iret (fun ty hty => by cases hty; rfl) (by decide +kernel : decode cX13_wed 65 = .ok (.ireturn, 1))
  · refine re_if_eq_f (pc := 14) 64 (by decide +kernel : decode cX13_wed 14 = .ok (.ifCond .eq 50, 3)) (by decide) g14_ ?_
    refine re_aloadn (pc := 17) 0 (by decide +kernel : decode cX13_wed 17 = .ok (.aload_n 0, 1)) rfl ?_
    refine re_iloadn (pc := 18) 2 (by decide +kernel : decode cX13_wed 18 = .ok (.iload_n 2, 1)) rfl ?_
    obtain ⟨u15_, g16_, h⟩ := rv_b_e h
    obtain ⟨x18_, g19_, h⟩ := rv_b_e h
    have m17_ := metX13_isWho n S6_ a0 x2 _ g19_
    refine re_cV (pc := 19) [.int x2] m17_ (rv_okl.k ⟨rfl, rfl⟩) (rv_up.rf _ _) (by decide) (rv_ck_e g16_) ⟨by decide, rfl⟩ (Nat.le_of_ble_eq_true rfl) lVX13_265 rfl (by decide +kernel : decode cX13_wed 19 = .ok (.invokevirtual 265, 3)) ?_
    rcases rv_if_e h with ⟨g20_, h⟩ | ⟨g20_, h⟩
    · refine re_if_eq_t (pc := 22) 64 (by decide +kernel : decode cX13_wed 22 = .ok (.ifCond .eq 42, 3)) (by decide) g20_ ?_
      refine re_iconst (pc := 64) (0 : Int32) (by decide +kernel : decode cX13_wed 64 = .ok (.iconst 0, 1)) (by decide) ?_
      cases h
      exact re_iret (fun ty hty => by cases hty; rfl) (by decide +kernel : decode cX13_wed 65 = .ok (.ireturn, 1))
    · refine re_if_eq_f (pc := 22) 64 (by decide +kernel : decode cX13_wed 22 = .ok (.ifCond .eq 42, 3)) (by decide) g20_ ?_
      refine re_iloadn (pc := 25) 1 (by decide +kernel : decode cX13_wed 25 = .ok (.iload_n 1, 1)) rfl ?_
      refine re_iloadn (pc := 26) 2 (by decide +kernel : decode cX13_wed 26 = .ok (.iload_n 2, 1)) rfl ?_
      rcases rv_if_e h with ⟨g21_, h⟩ | ⟨g21_, h⟩
      · refine re_icmp_eq_t (pc := 27) 64 (by decide +kernel : decode cX13_wed 27 = .ok (.if_icmp .eq 37, 3)) (by decide) g21_ ?_
        refine re_iconst (pc := 64) (0 : Int32) (by decide +kernel : decode cX13_wed 64 = .ok (.iconst 0, 1)) (by decide) ?_
        cases h
        exact re_iret (fun ty hty => by cases hty; rfl) (by decide +kernel : decode cX13_wed 65 = .ok (.ireturn, 1))
      · refine re_icmp_eq_f (pc := 27) 64 (by decide +kernel : decode cX13_wed 27 = .ok (.if_icmp .eq 37, 3)) (by decide) g21_ ?_
        refine re_aloadn (pc := 30) 0 (by decide +kernel : decode cX13_wed 30 = .ok (.aload_n 0, 1)) rfl ?_
        refine re_iloadn (pc := 31) 1 (by decide +kernel : decode cX13_wed 31 = .ok (.iload_n 1, 1)) rfl ?_
        obtain ⟨u22_, g23_, h⟩ := rv_b_e h
        obtain ⟨x25_, g26_, h⟩ := rv_b_e h
        have m24_ := metX13_isDead n S6_ a0 x1 _ g26_
        refine re_cV (pc := 32) [.int x1] m24_ (rv_okl.k ⟨rfl, rfl⟩) (rv_up.rf _ _) (by decide) (rv_ck_e g23_) ⟨by decide, rfl⟩ (Nat.le_of_ble_eq_true rfl) lVX13_292 rfl (by decide +kernel : decode cX13_wed 32 = .ok (.invokevirtual 292, 3)) ?_
        rcases rv_if_e h with ⟨g27_, h⟩ | ⟨g27_, h⟩
        · refine re_if_ne_f (pc := 35) 64 (by decide +kernel : decode cX13_wed 35 = .ok (.ifCond .ne 29, 3)) (by decide) g27_ ?_
          refine re_aloadn (pc := 38) 0 (by decide +kernel : decode cX13_wed 38 = .ok (.aload_n 0, 1)) rfl ?_
          refine re_iloadn (pc := 39) 2 (by decide +kernel : decode cX13_wed 39 = .ok (.iload_n 2, 1)) rfl ?_
          obtain ⟨u28_, g29_, h⟩ := rv_b_e h
          obtain ⟨x31_, g32_, h⟩ := rv_b_e h
          have m30_ := metX13_isDead n S6_ a0 x2 _ g32_
          refine re_cV (pc := 40) [.int x2] m30_ (rv_okl.k ⟨rfl, rfl⟩) (rv_up.rf _ _) (by decide) (rv_ck_e g29_) ⟨by decide, rfl⟩ (Nat.le_of_ble_eq_true rfl) lVX13_292 rfl (by decide +kernel : decode cX13_wed 40 = .ok (.invokevirtual 292, 3)) ?_
          rcases rv_if_e h with ⟨g33_, h⟩ | ⟨g33_, h⟩
          · refine re_if_ne_f (pc := 43) 64 (by decide +kernel : decode cX13_wed 43 = .ok (.ifCond .ne 21, 3)) (by decide) g33_ ?_
            refine re_aloadn (pc := 46) 0 (by decide +kernel : decode cX13_wed 46 = .ok (.aload_n 0, 1)) rfl ?_
            refine re_iloadn (pc := 47) 1 (by decide +kernel : decode cX13_wed 47 = .ok (.iload_n 1, 1)) rfl ?_
            refine re_iconst (pc := 48) (1 : Int32) (by decide +kernel : decode cX13_wed 48 = .ok (.iconst 1, 1)) (by decide) ?_
            obtain ⟨u34_, g35_, h⟩ := rv_b_e h
            obtain ⟨x37_, g38_, h⟩ := rv_b_e h
            have m36_ := metX13_ofWho n S6_ a0 x1 (1 : Int32) _ g38_
            refine re_cV (pc := 49) [.int x1, .int (1 : Int32)] m36_ (rv_okl.k ⟨rfl, rfl⟩) (rv_up.rf _ _) (by decide) (rv_ck_e g35_) ⟨by decide, rfl⟩ (Nat.le_of_ble_eq_true rfl) lVX13_261 rfl (by decide +kernel : decode cX13_wed 49 = .ok (.invokevirtual 261, 3)) ?_
            rcases rv_if_e h with ⟨g39_, h⟩ | ⟨g39_, h⟩
            · refine re_if_gt_t (pc := 52) 64 (by decide +kernel : decode cX13_wed 52 = .ok (.ifCond .gt 12, 3)) (by decide) g39_ ?_
              refine re_iconst (pc := 64) (0 : Int32) (by decide +kernel : decode cX13_wed 64 = .ok (.iconst 0, 1)) (by decide) ?_
              cases h
              exact re_iret (fun ty hty => by cases hty; rfl) (by decide +kernel : decode cX13_wed 65 = .ok (.ireturn, 1))
            · refine re_if_gt_f (pc := 52) 64 (by decide +kernel : decode cX13_wed 52 = .ok (.ifCond .gt 12, 3)) (by decide) g39_ ?_
              refine re_aloadn (pc := 55) 0 (by decide +kernel : decode cX13_wed 55 = .ok (.aload_n 0, 1)) rfl ?_
              refine re_iloadn (pc := 56) 2 (by decide +kernel : decode cX13_wed 56 = .ok (.iload_n 2, 1)) rfl ?_
              refine re_iconst (pc := 57) (1 : Int32) (by decide +kernel : decode cX13_wed 57 = .ok (.iconst 1, 1)) (by decide) ?_
              obtain ⟨u40_, g41_, h⟩ := rv_b_e h
              obtain ⟨x43_, g44_, h⟩ := rv_b_e h
              have m42_ := metX13_ofWho n S6_ a0 x2 (1 : Int32) _ g44_
              refine re_cV (pc := 58) [.int x2, .int (1 : Int32)] m42_ (rv_okl.k ⟨rfl, rfl⟩) (rv_up.rf _ _) (by decide) (rv_ck_e g41_) ⟨by decide, rfl⟩ (Nat.le_of_ble_eq_true rfl) lVX13_261 rfl (by decide +kernel : decode cX13_wed 58 = .ok (.invokevirtual 261, 3)) ?_
              rcases rv_if_e h with ⟨g45_, h⟩ | ⟨g45_, h⟩
              · refine re_if_le_t (pc := 61) 66 (by decide +kernel : decode cX13_wed 61 = .ok (.ifCond .le 5, 3)) (by decide) g45_ ?_
                refine re_aloadn (pc := 66) 0 (by decide +kernel : decode cX13_wed 66 = .ok (.aload_n 0, 1)) rfl ?_
                obtain ⟨a46_, g47_, h⟩ := rv_b_e h
                refine re_gR (pc := 67) g47_ lfX13_13 rfl (by decide +kernel : decode cX13_wed 67 = .ok (.getfield 13, 3)) ?_
                refine re_bipush (pc := 70) (8 : Int32) (by decide +kernel : decode cX13_wed 70 = .ok (.bipush 8, 2)) (by decide) ?_
                refine re_iconst (pc := 72) (5 : Int32) (by decide +kernel : decode cX13_wed 72 = .ok (.iconst 5, 1)) (by decide) ?_
                refine re_iloadn (pc := 73) 1 (by decide +kernel : decode cX13_wed 73 = .ok (.iload_n 1, 1)) rfl ?_
                refine re_imul (pc := 74) (by decide +kernel : decode cX13_wed 74 = .ok (.imul, 1)) ?_
                refine re_iadd (pc := 75) (by decide +kernel : decode cX13_wed 75 = .ok (.iadd, 1)) ?_
                refine re_iconst (pc := 76) (1 : Int32) (by decide +kernel : decode cX13_wed 76 = .ok (.iconst 1, 1)) (by decide) ?_
                refine re_iadd (pc := 77) (by decide +kernel : decode cX13_wed 77 = .ok (.iadd, 1)) ?_
                refine re_iloadn (pc := 78) 2 (by decide +kernel : decode cX13_wed 78 = .ok (.iload_n 2, 1)) rfl ?_
                refine re_iconst (pc := 79) (1 : Int32) (by decide +kernel : decode cX13_wed 79 = .ok (.iconst 1, 1)) (by decide) ?_
                refine re_iadd (pc := 80) (by decide +kernel : decode cX13_wed 80 = .ok (.iadd, 1)) ?_
                obtain ⟨S48_, g49_, h⟩ := rv_b_e h
                refine re_uI (pc := 81) g49_ (by decide +kernel : decode cX13_wed 81 = .ok (.iastore, 1)) ?_
                refine re_aloadn (pc := 82) 0 (by decide +kernel : decode cX13_wed 82 = .ok (.aload_n 0, 1)) rfl ?_
                obtain ⟨a50_, g51_, h⟩ := rv_b_e h
                refine re_gR (pc := 83) g51_ lfX13_13 rfl (by decide +kernel : decode cX13_wed 83 = .ok (.getfield 13, 3)) ?_
                refine re_bipush (pc := 86) (8 : Int32) (by decide +kernel : decode cX13_wed 86 = .ok (.bipush 8, 2)) (by decide) ?_
                refine re_iconst (pc := 88) (5 : Int32) (by decide +kernel : decode cX13_wed 88 = .ok (.iconst 5, 1)) (by decide) ?_
                refine re_iloadn (pc := 89) 2 (by decide +kernel : decode cX13_wed 89 = .ok (.iload_n 2, 1)) rfl ?_
                refine re_imul (pc := 90) (by decide +kernel : decode cX13_wed 90 = .ok (.imul, 1)) ?_
                refine re_iadd (pc := 91) (by decide +kernel : decode cX13_wed 91 = .ok (.iadd, 1)) ?_
                refine re_iconst (pc := 92) (1 : Int32) (by decide +kernel : decode cX13_wed 92 = .ok (.iconst 1, 1)) (by decide) ?_
                refine re_iadd (pc := 93) (by decide +kernel : decode cX13_wed 93 = .ok (.iadd, 1)) ?_
                refine re_iloadn (pc := 94) 1 (by decide +kernel : decode cX13_wed 94 = .ok (.iload_n 1, 1)) rfl ?_
                refine re_iconst (pc := 95) (1 : Int32) (by decide +kernel : decode cX13_wed 95 = .ok (.iconst 1, 1)) (by decide) ?_
                refine re_iadd (pc := 96) (by decide +kernel : decode cX13_wed 96 = .ok (.iadd, 1)) ?_
                obtain ⟨S52_, g53_, h⟩ := rv_b_e h
                refine re_uI (pc := 97) g53_ (by decide +kernel : decode cX13_wed 97 = .ok (.iastore, 1)) ?_
                refine re_iconst (pc := 98) (1 : Int32) (by decide +kernel : decode cX13_wed 98 = .ok (.iconst 1, 1)) (by decide) ?_
                cases h
                exact re_iret (fun ty hty => by cases hty; rfl) (by decide +kernel : decode cX13_wed 99 = .ok (.ireturn, 1))
              · refine re_if_le_f (pc := 61) 66 (by decide +kernel : decode cX13_wed 61 = .ok (.ifCond .le 5, 3)) (by decide) g45_ ?_
                refine re_iconst (pc := 64) (0 : Int32) (by decide +kernel : decode cX13_wed 64 = .ok (.iconst 0, 1)) (by decide) ?_
                cases h
                exact re_iret (fun ty hty => by cases hty; rfl) (by decide +kernel : decode cX13_wed 65 = .ok (.ireturn, 1))
          · refine re_if_ne_t (pc := 43) 64 (by decide +kernel : decode cX13_wed 43 = .ok (.ifCond .ne 21, 3)) (by decide) g33_ ?_
            refine re_iconst (pc := 64) (0 : Int32) (by decide +kernel : decode cX13_wed 64 = .ok (.iconst 0, 1)) (by decide) ?_
            cases h
            exact re_iret (fun ty hty => by cases hty; rfl) (by decide +kernel : decode cX13_wed 65 = .ok (.ireturn, 1))
        · refine re_if_ne_t (pc := 35) 64 (by decide +kernel : decode cX13_wed 35 = .ok (.ifCond .ne 29, 3)) (by decide) g27_ ?_
          refine re_iconst (pc := 64) (0 : Int32) (by decide +kernel : decode cX13_wed 64 = .ok (.iconst 0, 1)) (by decide) ?_
          cases h
          exact re_iret (fun ty hty => by cases hty; rfl) (by decide +kernel : decode cX13_wed 65 = .ok (.ireturn, 1))
theorem metX13_wed (n : Nat) (S : rvS) (a0 : Nat) (x1 : Int32) (x2 : Int32) (r : Int32) (S' : rvS) (h : fnX13_wed n S a0 x1 x2 = some (r, S')) : rv_Met yX13_wed mX13_wed 2 [.ref a0, .int x1, .int x2] S (some (.int r)) S' := rv_Met.of ⟨by decide +kernel, rfl, (fun z => by first | rfl | cases z), rfl⟩ (Nat.le_of_ble_eq_true rfl) rfl (eX13_wed_in n S a0 x1 x2 r S' h)
noncomputable def cX13_bear_32 (n : Nat) (S : rvS) (a0 : Nat) (x1 : Int32) (x2 : Int32) : Option (Int32 × rvS) :=
  (rv_gR S 11 a0 14).bind fun a1_ =>
  (rv_uI S a1_ (((8 : Int32) + ((5 : Int32) * x2)) + (0 : Int32)) x1).bind fun S3_ =>
  (rv_gR S3_ 11 a0 14).bind fun a5_ =>
  (rv_aI S3_ 0 a5_ (0 : Int32)).bind fun x7_ =>
  (rv_uI S3_ a5_ (0 : Int32) (x7_ + (1 : Int32))).bind fun S9_ =>
  some (x2, S9_)
set_option maxRecDepth 20000 in
set_option maxHeartbeats 4000000 in
theorem eX13_bear_32 (n : Nat) (S : rvS) (a0 : Nat) (x1 : Int32) (x2 : Int32) (r : Int32) (S' : rvS) (h : cX13_bear_32 n S a0 x1 x2 = some (r, S')) : rv_Ev mX13_bear 1 32 [(0, .ref a0), (1, .int x1), (2, .int x2)] [] S (some (.int r)) S' := by
  unfold cX13_bear_32 at h
  refine re_aloadn (pc := 32) 0 (by decide +kernel : decode cX13_bear 32 = .ok (.aload_n 0, 1)) rfl ?_
  obtain ⟨a1_, g2_, h⟩ := rv_b_e h
  refine re_gR (pc := 33) g2_ lfX13_13 rfl (by decide +kernel : decode cX13_bear 33 = .ok (.getfield 13, 3)) ?_
  refine re_bipush (pc := 36) (8 : Int32) (by decide +kernel : decode cX13_bear 36 = .ok (.bipush 8, 2)) (by decide) ?_
  refine re_iconst (pc := 38) (5 : Int32) (by decide +kernel : decode cX13_bear 38 = .ok (.iconst 5, 1)) (by decide) ?_
  refine re_iloadn (pc := 39) 2 (by decide +kernel : decode cX13_bear 39 = .ok (.iload_n 2, 1)) rfl ?_
  refine re_imul (pc := 40) (by decide +kernel : decode cX13_bear 40 = .ok (.imul, 1)) ?_
  refine re_iadd (pc := 41) (by decide +kernel : decode cX13_bear 41 = .ok (.iadd, 1)) ?_
  refine re_iconst (pc := 42) (0 : Int32) (by decide +kernel : decode cX13_bear 42 = .ok (.iconst 0, 1)) (by decide) ?_
  refine re_iadd (pc := 43) (by decide +kernel : decode cX13_bear 43 = .ok (.iadd, 1)) ?_
  refine re_iloadn (pc := 44) 1 (by decide +kernel : decode cX13_bear 44 = .ok (.iload_n 1, 1)) rfl ?_
  obtain ⟨S3_, g4_, h⟩ := rv_b_e h
  refine re_uI (pc := 45) g4_ (by decide +kernel : decode cX13_bear 45 = .ok (.iastore, 1)) ?_
  refine re_aloadn (pc := 46) 0 (by decide +kernel : decode cX13_bear 46 = .ok (.aload_n 0, 1)) rfl ?_
  obtain ⟨a5_, g6_, h⟩ := rv_b_e h
  refine re_gR (pc := 47) g6_ lfX13_13 rfl (by decide +kernel : decode cX13_bear 47 = .ok (.getfield 13, 3)) ?_
  refine re_iconst (pc := 50) (0 : Int32) (by decide +kernel : decode cX13_bear 50 = .ok (.iconst 0, 1)) (by decide) ?_
  refine re_dup2 (pc := 51) (by decide +kernel : decode cX13_bear 51 = .ok (.dup2, 1)) rfl rfl ?_
  obtain ⟨x7_, g8_, h⟩ := rv_b_e h
  refine re_aI (pc := 52) g8_ (by decide +kernel : decode cX13_bear 52 = .ok (.iaload, 1)) ?_
  refine re_iconst (pc := 53) (1 : Int32) (by decide +kernel : decode cX13_bear 53 = .ok (.iconst 1, 1)) (by decide) ?_
  refine re_iadd (pc := 54) (by decide +kernel : decode cX13_bear 54 = .ok (.iadd, 1)) ?_
  obtain ⟨S9_, g10_, h⟩ := rv_b_e h
  refine re_uI (pc := 55) g10_ (by decide +kernel : decode cX13_bear 55 = .ok (.iastore, 1)) ?_
  refine re_iloadn (pc := 56) 2 (by decide +kernel : decode cX13_bear 56 = .ok (.iload_n 2, 1)) rfl ?_
  cases h
  exact re_iret (fun ty hty => by cases hty; rfl) (by decide +kernel : decode cX13_bear 57 = .ok (.ireturn, 1))
noncomputable def cX13_bear_7 (n : Nat) : Nat → rvS → Nat → Int32 → Int32 → Int32 → Option (Int32 × rvS)
  | 0, _, _, _, _, _ => none
  | k + 1, S, a0, x1, x2, x3 =>
    if (5 : Int32) ≤ x3 then (
      cX13_bear_32 n S a0 x1 x2)
    else (
      (rv_gR S 11 a0 14).bind fun a2_ =>
      (rv_uI S a2_ (((8 : Int32) + ((5 : Int32) * x2)) + x3) (0 : Int32)).bind fun S4_ =>
      rv_lt (x3 + (1)) fun x6_ =>
      cX13_bear_7 n k S4_ a0 x1 x2 x6_)
set_option maxRecDepth 20000 in
set_option maxHeartbeats 4000000 in
theorem eX13_bear_7 (n : Nat) : ∀ (k : Nat) (S : rvS) (a0 : Nat) (x1 : Int32) (x2 : Int32) (x3 : Int32) (r : Int32) (S' : rvS), cX13_bear_7 n k S a0 x1 x2 x3 = some (r, S') → rv_Ev mX13_bear 1 7 [(0, .ref a0), (1, .int x1), (2, .int x2), (3, .int x3)] [] S (some (.int r)) S' := by
  intro k
  induction k with
  | zero => intro S a0 x1 x2 x3 r S' h; exact absurd h (by simp [cX13_bear_7])
  | succ k ih =>
    intro S a0 x1 x2 x3 r S' h
    unfold cX13_bear_7 at h
    refine re_iloadn (pc := 7) 3 (by decide +kernel : decode cX13_bear 7 = .ok (.iload_n 3, 1)) rfl ?_
    refine re_iconst (pc := 8) (5 : Int32) (by decide +kernel : decode cX13_bear 8 = .ok (.iconst 5, 1)) (by decide) ?_
    rcases rv_if_e h with ⟨g1_, h⟩ | ⟨g1_, h⟩
    · refine re_icmp_ge_t (pc := 9) 32 (by decide +kernel : decode cX13_bear 9 = .ok (.if_icmp .ge 23, 3)) (by decide) g1_ ?_
      refine re_sub [0, 1, 2] (lv1 := [(0, .ref a0), (1, .int x1), (2, .int x2)]) rfl ?_
      exact eX13_bear_32 n S a0 x1 x2 _ _ h
    · refine re_icmp_ge_f (pc := 9) 32 (by decide +kernel : decode cX13_bear 9 = .ok (.if_icmp .ge 23, 3)) (by decide) g1_ ?_
      refine re_aloadn (pc := 12) 0 (by decide +kernel : decode cX13_bear 12 = .ok (.aload_n 0, 1)) rfl ?_
      obtain ⟨a2_, g3_, h⟩ := rv_b_e h
      refine re_gR (pc := 13) g3_ lfX13_13 rfl (by decide +kernel : decode cX13_bear 13 = .ok (.getfield 13, 3)) ?_
      refine re_bipush (pc := 16) (8 : Int32) (by decide +kernel : decode cX13_bear 16 = .ok (.bipush 8, 2)) (by decide) ?_
      refine re_iconst (pc := 18) (5 : Int32) (by decide +kernel : decode cX13_bear 18 = .ok (.iconst 5, 1)) (by decide) ?_
      refine re_iloadn (pc := 19) 2 (by decide +kernel : decode cX13_bear 19 = .ok (.iload_n 2, 1)) rfl ?_
      refine re_imul (pc := 20) (by decide +kernel : decode cX13_bear 20 = .ok (.imul, 1)) ?_
      refine re_iadd (pc := 21) (by decide +kernel : decode cX13_bear 21 = .ok (.iadd, 1)) ?_
      refine re_iloadn (pc := 22) 3 (by decide +kernel : decode cX13_bear 22 = .ok (.iload_n 3, 1)) rfl ?_
      refine re_iadd (pc := 23) (by decide +kernel : decode cX13_bear 23 = .ok (.iadd, 1)) ?_
      refine re_iconst (pc := 24) (0 : Int32) (by decide +kernel : decode cX13_bear 24 = .ok (.iconst 0, 1)) (by decide) ?_
      obtain ⟨S4_, g5_, h⟩ := rv_b_e h
      refine re_uI (pc := 25) g5_ (by decide +kernel : decode cX13_bear 25 = .ok (.iastore, 1)) ?_
      obtain ⟨x6_, g7_, h⟩ := rv_lt_e h
      refine re_iinc (pc := 26) 3 x6_ (lv1 := [(3, .int x6_), (0, .ref a0), (1, .int x1), (2, .int x2)]) (by decide +kernel : decode cX13_bear 26 = .ok (.iinc 3 1, 3)) rfl g7_ (by decide) rfl ?_
      refine re_goto (pc := 29) 7 (by decide +kernel : decode cX13_bear 29 = .ok (.goto (-22), 3)) (by decide) ?_
      refine re_sub [1, 2, 3, 0] (lv1 := [(0, .ref a0), (1, .int x1), (2, .int x2), (3, .int x6_)]) rfl ?_
      exact ih S4_ a0 x1 x2 x6_ _ _ h
noncomputable def fnX13_bear (n : Nat) (S : rvS) (a0 : Nat) (x1 : Int32) : Option (Int32 × rvS) :=
  (rv_ck S 11 a0).bind fun u1_ =>
  (fnX13_whos n S a0).bind fun x4_ =>
  cX13_bear_7 n n S a0 x1 x4_ (0 : Int32)
set_option maxRecDepth 20000 in
set_option maxHeartbeats 4000000 in
theorem eX13_bear_in (n : Nat) (S : rvS) (a0 : Nat) (x1 : Int32) (r : Int32) (S' : rvS) (h : fnX13_bear n S a0 x1 = some (r, S')) : rv_Ev mX13_bear 1 0 [(0, .ref a0), (1, .int x1)] [] S (some (.int r)) S' := by
  unfold fnX13_bear at h
  refine re_aloadn (pc := 0) 0 (by decide +kernel : decode cX13_bear 0 = .ok (.aload_n 0, 1)) rfl ?_
  obtain ⟨u1_, g2_, h⟩ := rv_b_e h
  obtain ⟨x4_, g5_, h⟩ := rv_b_e h
  have m3_ := metX13_whos n S a0 _ g5_
  refine re_cV (pc := 1) [] m3_ (rv_okl.k ⟨rfl, rfl⟩) (rv_up.rf _ _) (by decide) (rv_ck_e g2_) ⟨by decide, rfl⟩ (Nat.le_of_ble_eq_true rfl) lVX13_255 rfl (by decide +kernel : decode cX13_bear 1 = .ok (.invokevirtual 255, 3)) ?_
  refine re_istoren (pc := 4) (lv1 := [(2, .int x4_), (0, .ref a0), (1, .int x1)]) (by decide +kernel : decode cX13_bear 4 = .ok (.istore_n 2, 1)) rfl (by decide) rfl ?_
  refine re_iconst (pc := 5) (0 : Int32) (by decide +kernel : decode cX13_bear 5 = .ok (.iconst 0, 1)) (by decide) ?_
  refine re_istoren (pc := 6) (lv1 := [(3, .int (0 : Int32)), (2, .int x4_), (0, .ref a0), (1, .int x1)]) (by decide +kernel : decode cX13_bear 6 = .ok (.istore_n 3, 1)) rfl (by decide) rfl ?_
  refine re_sub [2, 3, 1, 0] (lv1 := [(0, .ref a0), (1, .int x1), (2, .int x4_), (3, .int (0 : Int32))]) rfl ?_
  exact eX13_bear_7 n n S a0 x1 x4_ (0 : Int32) _ _ h
theorem metX13_bear (n : Nat) (S : rvS) (a0 : Nat) (x1 : Int32) (r : Int32) (S' : rvS) (h : fnX13_bear n S a0 x1 = some (r, S')) : rv_Met yX13_bear mX13_bear 1 [.ref a0, .int x1] S (some (.int r)) S' := rv_Met.of ⟨by decide +kernel, rfl, (fun z => by first | rfl | cases z), rfl⟩ (Nat.le_of_ble_eq_true rfl) rfl (eX13_bear_in n S a0 x1 r S' h)
noncomputable def fnX13_born (n : Nat) (S : rvS) (a0 : Nat) (x1 : Int32) : Option (Int32 × rvS) :=
  (rv_pI S 11 a0 0 (0 : Int32)).bind fun S1_ =>
  (rv_ck S1_ 11 a0).bind fun u3_ =>
  (fnX13_lay n S1_ a0).bind fun S6_ =>
  (fnX13_isVillage n S6_ x1).bind fun x10_ =>
  if x10_ = 0 then (
    some ((-1 : Int32), S6_))
  else (
    (rv_ck S6_ 11 a0).bind fun u13_ =>
    (fnX13_whos n S6_ a0).bind fun x16_ =>
    if (24 : Int32) ≤ x16_ then (
      some ((-1 : Int32), S6_))
    else (
      (rv_ck S6_ 11 a0).bind fun u19_ =>
      rv_bp (fnX13_bear n S6_ a0 x1) fun x22_ S23_ =>
      some (x22_, S23_)))
set_option maxRecDepth 20000 in
set_option maxHeartbeats 4000000 in
theorem eX13_born_in (n : Nat) (S : rvS) (a0 : Nat) (x1 : Int32) (r : Int32) (S' : rvS) (h : fnX13_born n S a0 x1 = some (r, S')) : rv_Ev mX13_born 2 0 [(0, .ref a0), (1, .int x1)] [] S (some (.int r)) S' := by
  unfold fnX13_born at h
  refine re_aloadn (pc := 0) 0 (by decide +kernel : decode cX13_born 0 = .ok (.aload_n 0, 1)) rfl ?_
  refine re_iconst (pc := 1) (0 : Int32) (by decide +kernel : decode cX13_born 1 = .ok (.iconst 0, 1)) (by decide) ?_
  obtain ⟨S1_, g2_, h⟩ := rv_b_e h
  refine re_pI (pc := 2) g2_ lfX13_99 rfl rfl rfl rfl (by decide +kernel : decode cX13_born 2 = .ok (.putfield 99, 3)) ?_
  refine re_aloadn (pc := 5) 0 (by decide +kernel : decode cX13_born 5 = .ok (.aload_n 0, 1)) rfl ?_
  obtain ⟨u3_, g4_, h⟩ := rv_b_e h
  obtain ⟨S6_, g7_, h⟩ := rv_b_e h
  have m5_ := metX13_lay n S1_ a0 _ g7_
  have z8_ : rv_same S1_ S6_ := m5_.sh rfl
  refine re_cV (pc := 6) [] m5_ (rv_okl.k z8_) (rv_up.sh z8_) (by decide) (rv_ck_e g4_) ⟨by decide, rfl⟩ (Nat.le_of_ble_eq_true rfl) lVX13_187 rfl (by decide +kernel : decode cX13_born 6 = .ok (.invokevirtual 187, 3)) ?_
  refine re_iloadn (pc := 9) 1 (by decide +kernel : decode cX13_born 9 = .ok (.iload_n 1, 1)) rfl ?_
  obtain ⟨x10_, g11_, h⟩ := rv_b_e h
  have m9_ := metX13_isVillage n S6_ x1 _ g11_
  refine re_cS (pc := 10) [.int x1] m9_ (rv_okl.k ⟨rfl, rfl⟩) (rv_up.rf _ _) (by decide) (Nat.le_of_ble_eq_true rfl) lSX13_289 rfl (by decide +kernel : decode cX13_born 10 = .ok (.invokestatic 289, 3)) ?_
  rcases rv_if_e h with ⟨g12_, h⟩ | ⟨g12_, h⟩
  · refine re_if_eq_t (pc := 13) 33 (by decide +kernel : decode cX13_born 13 = .ok (.ifCond .eq 20, 3)) (by decide) g12_ ?_
    refine re_iconst (pc := 33) (-1 : Int32) (by decide +kernel : decode cX13_born 33 = .ok (.iconst (-1), 1)) (by decide) ?_
    cases h
    exact re_iret (fun ty hty => by cases hty; rfl) (by decide +kernel : decode cX13_born 34 = .ok (.ireturn, 1))
  · refine re_if_eq_f (pc := 13) 33 (by decide +kernel : decode cX13_born 13 = .ok (.ifCond .eq 20, 3)) (by decide) g12_ ?_
    refine re_aloadn (pc := 16) 0 (by decide +kernel : decode cX13_born 16 = .ok (.aload_n 0, 1)) rfl ?_
    obtain ⟨u13_, g14_, h⟩ := rv_b_e h
    obtain ⟨x16_, g17_, h⟩ := rv_b_e h
    have m15_ := metX13_whos n S6_ a0 _ g17_
    refine re_cV (pc := 17) [] m15_ (rv_okl.k ⟨rfl, rfl⟩) (rv_up.rf _ _) (by decide) (rv_ck_e g14_) ⟨by decide, rfl⟩ (Nat.le_of_ble_eq_true rfl) lVX13_255 rfl (by decide +kernel : decode cX13_born 17 = .ok (.invokevirtual 255, 3)) ?_
    refine re_bipush (pc := 20) (24 : Int32) (by decide +kernel : decode cX13_born 20 = .ok (.bipush 24, 2)) (by decide) ?_
    rcases rv_if_e h with ⟨g18_, h⟩ | ⟨g18_, h⟩
    · refine re_icmp_ge_t (pc := 22) 33 (by decide +kernel : decode cX13_born 22 = .ok (.if_icmp .ge 11, 3)) (by decide) g18_ ?_
      refine re_iconst (pc := 33) (-1 : Int32) (by decide +kernel : decode cX13_born 33 = .ok (.iconst (-1), 1)) (by decide) ?_
      cases h
      exact re_iret (fun ty hty => by cases hty; rfl) (by decide +kernel : decode cX13_born 34 = .ok (.ireturn, 1))
    · refine re_icmp_ge_f (pc := 22) 33 (by decide +kernel : decode cX13_born 22 = .ok (.if_icmp .ge 11, 3)) (by decide) g18_ ?_
      refine re_aloadn (pc := 25) 0 (by decide +kernel : decode cX13_born 25 = .ok (.aload_n 0, 1)) rfl ?_
      refine re_iloadn (pc := 26) 1 (by decide +kernel : decode cX13_born 26 = .ok (.iload_n 1, 1)) rfl ?_
      obtain ⟨u19_, g20_, h⟩ := rv_b_e h
      obtain ⟨x22_, S23_, g24_, h⟩ := rv_bp_e h
      have m21_ := metX13_bear n S6_ a0 x1 _ _ g24_
      have z25_ : rv_same S6_ S23_ := m21_.sh rfl
      refine re_cV (pc := 27) [.int x1] m21_ (rv_okl.k z25_) (rv_up.sh z25_) (by decide) (rv_ck_e g20_) ⟨by decide, rfl⟩ (Nat.le_of_ble_eq_true rfl) lVX13_353 rfl (by decide +kernel : decode cX13_born 27 = .ok (.invokevirtual 353, 3)) ?_
      refine re_goto (pc := 30) 34 (by decide +kernel : decode cX13_born 30 = .ok (.goto 4, 3)) (by decide) ?_
      cases h
      exact re_iret (fun ty hty => by cases hty; rfl) (by decide +kernel : decode cX13_born 34 = .ok (.ireturn, 1))
theorem metX13_born (n : Nat) (S : rvS) (a0 : Nat) (x1 : Int32) (r : Int32) (S' : rvS) (h : fnX13_born n S a0 x1 = some (r, S')) : rv_Met yX13_born mX13_born 2 [.ref a0, .int x1] S (some (.int r)) S' := rv_Met.of ⟨by decide +kernel, rfl, (fun z => by first | rfl | cases z), rfl⟩ (Nat.le_of_ble_eq_true rfl) rfl (eX13_born_in n S a0 x1 r S' h)
noncomputable def cX13_rub_62 (n : Nat) (K16 : Nat → Int32 → Int32 → Int32 → Int32 → Int32 → rvS → Option rvS) (S : rvS) (a0 : Nat) (x2 : Int32) (x3 : Int32) (x4 : Int32) (x5 : Int32) (x6 : Int32) (x7 : Int32) : Option rvS :=
  (rv_gR S 11 a0 14).bind fun a1_ =>
  if x7 = x2 then (
    (rv_uI S a1_ ((x4 + (3 : Int32)) + x5) x3).bind fun S10_ =>
    rv_lt (x5 + (1)) fun x12_ =>
    rv_lt (x6 + (1)) fun x14_ =>
    K16 a0 x2 x3 x4 x12_ x14_ S10_)
  else (
    (rv_uI S a1_ ((x4 + (3 : Int32)) + x5) x7).bind fun S4_ =>
    rv_lt (x5 + (1)) fun x6_ =>
    rv_lt (x6 + (1)) fun x8_ =>
    K16 a0 x2 x3 x4 x6_ x8_ S4_)
set_option maxRecDepth 20000 in
set_option maxHeartbeats 4000000 in
theorem eX13_rub_62 (n : Nat) (K16 : Nat → Int32 → Int32 → Int32 → Int32 → Int32 → rvS → Option rvS) (hK16 : ∀ (a0 : Nat) (x2 : Int32) (x3 : Int32) (x4 : Int32) (x5 : Int32) (x6 : Int32) (S : rvS) (S' : rvS), K16 a0 x2 x3 x4 x5 x6 S = some S' → rv_Ev mX13_rub 0 16 [(0, .ref a0), (2, .int x2), (3, .int x3), (4, .int x4), (5, .int x5), (6, .int x6)] [] S none S') (S : rvS) (a0 : Nat) (x2 : Int32) (x3 : Int32) (x4 : Int32) (x5 : Int32) (x6 : Int32) (x7 : Int32) (S' : rvS) (h : cX13_rub_62 n K16 S a0 x2 x3 x4 x5 x6 x7 = some S') : rv_Ev mX13_rub 0 62 [(0, .ref a0), (2, .int x2), (3, .int x3), (4, .int x4), (5, .int x5), (6, .int x6), (7, .int x7)] [] S none S' := by
  unfold cX13_rub_62 at h
  refine re_aloadn (pc := 62) 0 (by decide +kernel : decode cX13_rub 62 = .ok (.aload_n 0, 1)) rfl ?_
  obtain ⟨a1_, g2_, h⟩ := rv_b_e h
  refine re_gR (pc := 63) g2_ lfX13_13 rfl (by decide +kernel : decode cX13_rub 63 = .ok (.getfield 13, 3)) ?_
  refine re_iload (pc := 66) 3 (by decide +kernel : decode cX13_rub 66 = .ok (.iload 4, 2)) rfl ?_
  refine re_iconst (pc := 68) (3 : Int32) (by decide +kernel : decode cX13_rub 68 = .ok (.iconst 3, 1)) (by decide) ?_
  refine re_iadd (pc := 69) (by decide +kernel : decode cX13_rub 69 = .ok (.iadd, 1)) ?_
  refine re_iload (pc := 70) 4 (by decide +kernel : decode cX13_rub 70 = .ok (.iload 5, 2)) rfl ?_
  refine re_iadd (pc := 72) (by decide +kernel : decode cX13_rub 72 = .ok (.iadd, 1)) ?_
  refine re_iload (pc := 73) 6 (by decide +kernel : decode cX13_rub 73 = .ok (.iload 7, 2)) rfl ?_
  refine re_iloadn (pc := 75) 1 (by decide +kernel : decode cX13_rub 75 = .ok (.iload_n 2, 1)) rfl ?_
  rcases rv_if_e h with ⟨g3_, h⟩ | ⟨g3_, h⟩
  · refine re_icmp_ne_f (pc := 76) 83 (by decide +kernel : decode cX13_rub 76 = .ok (.if_icmp .ne 7, 3)) (by decide) g3_ ?_
    refine re_iloadn (pc := 79) 2 (by decide +kernel : decode cX13_rub 79 = .ok (.iload_n 3, 1)) rfl ?_
    refine re_goto (pc := 80) 85 (by decide +kernel : decode cX13_rub 80 = .ok (.goto 5, 3)) (by decide) ?_
    obtain ⟨S10_, g11_, h⟩ := rv_b_e h
    refine re_uI (pc := 85) g11_ (by decide +kernel : decode cX13_rub 85 = .ok (.iastore, 1)) ?_
    obtain ⟨x12_, g13_, h⟩ := rv_lt_e h
    refine re_iinc (pc := 86) 4 x12_ (lv1 := [(5, .int x12_), (0, .ref a0), (2, .int x2), (3, .int x3), (4, .int x4), (6, .int x6), (7, .int x7)]) (by decide +kernel : decode cX13_rub 86 = .ok (.iinc 5 1, 3)) rfl g13_ (by decide) rfl ?_
    obtain ⟨x14_, g15_, h⟩ := rv_lt_e h
    refine re_iinc (pc := 89) 5 x14_ (lv1 := [(6, .int x14_), (5, .int x12_), (0, .ref a0), (2, .int x2), (3, .int x3), (4, .int x4), (7, .int x7)]) (by decide +kernel : decode cX13_rub 89 = .ok (.iinc 6 1, 3)) rfl g15_ (by decide) rfl ?_
    refine re_goto (pc := 92) 16 (by decide +kernel : decode cX13_rub 92 = .ok (.goto (-76), 3)) (by decide) ?_
    refine re_sub [2, 3, 4, 5, 1, 0] (lv1 := [(0, .ref a0), (2, .int x2), (3, .int x3), (4, .int x4), (5, .int x12_), (6, .int x14_)]) rfl ?_
    exact hK16 a0 x2 x3 x4 x12_ x14_ S10_ _ h
  · refine re_icmp_ne_t (pc := 76) 83 (by decide +kernel : decode cX13_rub 76 = .ok (.if_icmp .ne 7, 3)) (by decide) g3_ ?_
    refine re_iload (pc := 83) 6 (by decide +kernel : decode cX13_rub 83 = .ok (.iload 7, 2)) rfl ?_
    obtain ⟨S4_, g5_, h⟩ := rv_b_e h
    refine re_uI (pc := 85) g5_ (by decide +kernel : decode cX13_rub 85 = .ok (.iastore, 1)) ?_
    obtain ⟨x6_, g7_, h⟩ := rv_lt_e h
    refine re_iinc (pc := 86) 4 x6_ (lv1 := [(5, .int x6_), (0, .ref a0), (2, .int x2), (3, .int x3), (4, .int x4), (6, .int x6), (7, .int x7)]) (by decide +kernel : decode cX13_rub 86 = .ok (.iinc 5 1, 3)) rfl g7_ (by decide) rfl ?_
    obtain ⟨x8_, g9_, h⟩ := rv_lt_e h
    refine re_iinc (pc := 89) 5 x8_ (lv1 := [(6, .int x8_), (5, .int x6_), (0, .ref a0), (2, .int x2), (3, .int x3), (4, .int x4), (7, .int x7)]) (by decide +kernel : decode cX13_rub 89 = .ok (.iinc 6 1, 3)) rfl g9_ (by decide) rfl ?_
    refine re_goto (pc := 92) 16 (by decide +kernel : decode cX13_rub 92 = .ok (.goto (-76), 3)) (by decide) ?_
    refine re_sub [2, 3, 4, 5, 1, 0] (lv1 := [(0, .ref a0), (2, .int x2), (3, .int x3), (4, .int x4), (5, .int x6_), (6, .int x8_)]) rfl ?_
    exact hK16 a0 x2 x3 x4 x6_ x8_ S4_ _ h
noncomputable def cX13_rub_95 (n : Nat) (S : rvS) (a0 : Nat) (x4 : Int32) (x5 : Int32) : Option rvS :=
  (rv_gR S 11 a0 14).bind fun a1_ =>
  (rv_uI S a1_ (x4 + (2 : Int32)) x5).bind fun S3_ =>
  some S3_
set_option maxRecDepth 20000 in
set_option maxHeartbeats 4000000 in
theorem eX13_rub_95 (n : Nat) (S : rvS) (a0 : Nat) (x4 : Int32) (x5 : Int32) (S' : rvS) (h : cX13_rub_95 n S a0 x4 x5 = some S') : rv_Ev mX13_rub 0 95 [(0, .ref a0), (4, .int x4), (5, .int x5)] [] S none S' := by
  unfold cX13_rub_95 at h
  refine re_aloadn (pc := 95) 0 (by decide +kernel : decode cX13_rub 95 = .ok (.aload_n 0, 1)) rfl ?_
  obtain ⟨a1_, g2_, h⟩ := rv_b_e h
  refine re_gR (pc := 96) g2_ lfX13_13 rfl (by decide +kernel : decode cX13_rub 96 = .ok (.getfield 13, 3)) ?_
  refine re_iload (pc := 99) 1 (by decide +kernel : decode cX13_rub 99 = .ok (.iload 4, 2)) rfl ?_
  refine re_iconst (pc := 101) (2 : Int32) (by decide +kernel : decode cX13_rub 101 = .ok (.iconst 2, 1)) (by decide) ?_
  refine re_iadd (pc := 102) (by decide +kernel : decode cX13_rub 102 = .ok (.iadd, 1)) ?_
  refine re_iload (pc := 103) 2 (by decide +kernel : decode cX13_rub 103 = .ok (.iload 5, 2)) rfl ?_
  obtain ⟨S3_, g4_, h⟩ := rv_b_e h
  refine re_uI (pc := 105) g4_ (by decide +kernel : decode cX13_rub 105 = .ok (.iastore, 1)) ?_
  cases h
  exact re_vret (by decide +kernel : decode cX13_rub 106 = .ok (.return_, 1))
noncomputable def cX13_rub_16 (n : Nat) : Nat → rvS → Nat → Int32 → Int32 → Int32 → Int32 → Int32 → Option rvS
  | 0, _, _, _, _, _, _, _ => none
  | k + 1, S, a0, x2, x3, x4, x5, x6 =>
    (rv_gR S 11 a0 14).bind fun a1_ =>
    (rv_aI S 0 a1_ (x4 + (2 : Int32))).bind fun x3_ =>
    if x3_ ≤ x6 then (
      cX13_rub_95 n S a0 x4 x5)
    else (
      (rv_gR S 11 a0 14).bind fun a6_ =>
      (rv_aI S 0 a6_ ((x4 + (3 : Int32)) + x6)).bind fun x8_ =>
      if x8_ = x2 then (
        (rv_gR S 11 a0 14).bind fun a11_ =>
        (rv_aI S 0 a11_ (5 : Int32)).bind fun x13_ =>
        if x13_ = 0 then (
          rv_lt (x6 + (1)) fun x16_ =>
          cX13_rub_16 n k S a0 x2 x3 x4 x5 x16_)
        else (
          cX13_rub_62 n (fun a0 x2 x3 x4 x5 x6 S => cX13_rub_16 n k S a0 x2 x3 x4 x5 x6) S a0 x2 x3 x4 x5 x6 x8_))
      else (
        cX13_rub_62 n (fun a0 x2 x3 x4 x5 x6 S => cX13_rub_16 n k S a0 x2 x3 x4 x5 x6) S a0 x2 x3 x4 x5 x6 x8_))
set_option maxRecDepth 20000 in
set_option maxHeartbeats 4000000 in
theorem eX13_rub_16 (n : Nat) : ∀ (k : Nat) (S : rvS) (a0 : Nat) (x2 : Int32) (x3 : Int32) (x4 : Int32) (x5 : Int32) (x6 : Int32) (S' : rvS), cX13_rub_16 n k S a0 x2 x3 x4 x5 x6 = some S' → rv_Ev mX13_rub 0 16 [(0, .ref a0), (2, .int x2), (3, .int x3), (4, .int x4), (5, .int x5), (6, .int x6)] [] S none S' := by
  intro k
  induction k with
  | zero => intro S a0 x2 x3 x4 x5 x6 S' h; exact absurd h (by simp [cX13_rub_16])
  | succ k ih =>
    intro S a0 x2 x3 x4 x5 x6 S' h
    unfold cX13_rub_16 at h
    refine re_iload (pc := 16) 5 (by decide +kernel : decode cX13_rub 16 = .ok (.iload 6, 2)) rfl ?_
    refine re_aloadn (pc := 18) 0 (by decide +kernel : decode cX13_rub 18 = .ok (.aload_n 0, 1)) rfl ?_
    obtain ⟨a1_, g2_, h⟩ := rv_b_e h
    refine re_gR (pc := 19) g2_ lfX13_13 rfl (by decide +kernel : decode cX13_rub 19 = .ok (.getfield 13, 3)) ?_
    refine re_iload (pc := 22) 3 (by decide +kernel : decode cX13_rub 22 = .ok (.iload 4, 2)) rfl ?_
    refine re_iconst (pc := 24) (2 : Int32) (by decide +kernel : decode cX13_rub 24 = .ok (.iconst 2, 1)) (by decide) ?_
    refine re_iadd (pc := 25) (by decide +kernel : decode cX13_rub 25 = .ok (.iadd, 1)) ?_
    obtain ⟨x3_, g4_, h⟩ := rv_b_e h
    refine re_aI (pc := 26) g4_ (by decide +kernel : decode cX13_rub 26 = .ok (.iaload, 1)) ?_
    rcases rv_if_e h with ⟨g5_, h⟩ | ⟨g5_, h⟩
    · refine re_icmp_ge_t (pc := 27) 95 (by decide +kernel : decode cX13_rub 27 = .ok (.if_icmp .ge 68, 3)) (by decide) g5_ ?_
      refine re_sub [0, 3, 4] (lv1 := [(0, .ref a0), (4, .int x4), (5, .int x5)]) rfl ?_
      exact eX13_rub_95 n S a0 x4 x5 _ h
    · refine re_icmp_ge_f (pc := 27) 95 (by decide +kernel : decode cX13_rub 27 = .ok (.if_icmp .ge 68, 3)) (by decide) g5_ ?_
      refine re_aloadn (pc := 30) 0 (by decide +kernel : decode cX13_rub 30 = .ok (.aload_n 0, 1)) rfl ?_
      obtain ⟨a6_, g7_, h⟩ := rv_b_e h
      refine re_gR (pc := 31) g7_ lfX13_13 rfl (by decide +kernel : decode cX13_rub 31 = .ok (.getfield 13, 3)) ?_
      refine re_iload (pc := 34) 3 (by decide +kernel : decode cX13_rub 34 = .ok (.iload 4, 2)) rfl ?_
      refine re_iconst (pc := 36) (3 : Int32) (by decide +kernel : decode cX13_rub 36 = .ok (.iconst 3, 1)) (by decide) ?_
      refine re_iadd (pc := 37) (by decide +kernel : decode cX13_rub 37 = .ok (.iadd, 1)) ?_
      refine re_iload (pc := 38) 5 (by decide +kernel : decode cX13_rub 38 = .ok (.iload 6, 2)) rfl ?_
      refine re_iadd (pc := 40) (by decide +kernel : decode cX13_rub 40 = .ok (.iadd, 1)) ?_
      obtain ⟨x8_, g9_, h⟩ := rv_b_e h
      refine re_aI (pc := 41) g9_ (by decide +kernel : decode cX13_rub 41 = .ok (.iaload, 1)) ?_
      refine re_istore (pc := 42) (lv1 := [(7, .int x8_), (0, .ref a0), (2, .int x2), (3, .int x3), (4, .int x4), (5, .int x5), (6, .int x6)]) (by decide +kernel : decode cX13_rub 42 = .ok (.istore 7, 2)) (by decide) rfl ?_
      refine re_iload (pc := 44) 0 (by decide +kernel : decode cX13_rub 44 = .ok (.iload 7, 2)) rfl ?_
      refine re_iloadn (pc := 46) 2 (by decide +kernel : decode cX13_rub 46 = .ok (.iload_n 2, 1)) rfl ?_
      rcases rv_if_e h with ⟨g10_, h⟩ | ⟨g10_, h⟩
      · refine re_icmp_ne_f (pc := 47) 62 (by decide +kernel : decode cX13_rub 47 = .ok (.if_icmp .ne 15, 3)) (by decide) g10_ ?_
        refine re_aloadn (pc := 50) 1 (by decide +kernel : decode cX13_rub 50 = .ok (.aload_n 0, 1)) rfl ?_
        obtain ⟨a11_, g12_, h⟩ := rv_b_e h
        refine re_gR (pc := 51) g12_ lfX13_13 rfl (by decide +kernel : decode cX13_rub 51 = .ok (.getfield 13, 3)) ?_
        refine re_iconst (pc := 54) (5 : Int32) (by decide +kernel : decode cX13_rub 54 = .ok (.iconst 5, 1)) (by decide) ?_
        obtain ⟨x13_, g14_, h⟩ := rv_b_e h
        refine re_aI (pc := 55) g14_ (by decide +kernel : decode cX13_rub 55 = .ok (.iaload, 1)) ?_
        rcases rv_if_e h with ⟨g15_, h⟩ | ⟨g15_, h⟩
        · refine re_if_ne_f (pc := 56) 62 (by decide +kernel : decode cX13_rub 56 = .ok (.ifCond .ne 6, 3)) (by decide) g15_ ?_
          refine re_goto (pc := 59) 89 (by decide +kernel : decode cX13_rub 59 = .ok (.goto 30, 3)) (by decide) ?_
          obtain ⟨x16_, g17_, h⟩ := rv_lt_e h
          refine re_iinc (pc := 89) 6 x16_ (lv1 := [(6, .int x16_), (7, .int x8_), (0, .ref a0), (2, .int x2), (3, .int x3), (4, .int x4), (5, .int x5)]) (by decide +kernel : decode cX13_rub 89 = .ok (.iinc 6 1, 3)) rfl g17_ (by decide) rfl ?_
          refine re_goto (pc := 92) 16 (by decide +kernel : decode cX13_rub 92 = .ok (.goto (-76), 3)) (by decide) ?_
          refine re_sub [2, 3, 4, 5, 6, 0] (lv1 := [(0, .ref a0), (2, .int x2), (3, .int x3), (4, .int x4), (5, .int x5), (6, .int x16_)]) rfl ?_
          exact ih S a0 x2 x3 x4 x5 x16_ _ h
        · refine re_if_ne_t (pc := 56) 62 (by decide +kernel : decode cX13_rub 56 = .ok (.ifCond .ne 6, 3)) (by decide) g15_ ?_
          refine re_sub [1, 2, 3, 4, 5, 6, 0] (lv1 := [(0, .ref a0), (2, .int x2), (3, .int x3), (4, .int x4), (5, .int x5), (6, .int x6), (7, .int x8_)]) rfl ?_
          exact eX13_rub_62 n (fun a0 x2 x3 x4 x5 x6 S => cX13_rub_16 n k S a0 x2 x3 x4 x5 x6) (fun a0 x2 x3 x4 x5 x6 S _ h => ih S a0 x2 x3 x4 x5 x6 _ h) S a0 x2 x3 x4 x5 x6 x8_ _ h
      · refine re_icmp_ne_t (pc := 47) 62 (by decide +kernel : decode cX13_rub 47 = .ok (.if_icmp .ne 15, 3)) (by decide) g10_ ?_
        refine re_sub [1, 2, 3, 4, 5, 6, 0] (lv1 := [(0, .ref a0), (2, .int x2), (3, .int x3), (4, .int x4), (5, .int x5), (6, .int x6), (7, .int x8_)]) rfl ?_
        exact eX13_rub_62 n (fun a0 x2 x3 x4 x5 x6 S => cX13_rub_16 n k S a0 x2 x3 x4 x5 x6) (fun a0 x2 x3 x4 x5 x6 S _ h => ih S a0 x2 x3 x4 x5 x6 _ h) S a0 x2 x3 x4 x5 x6 x8_ _ h
noncomputable def fnX13_rub (n : Nat) (S : rvS) (a0 : Nat) (x1 : Int32) (x2 : Int32) (x3 : Int32) : Option rvS :=
  rv_lt ((132 : Int32) + ((6 : Int32) * x1)) fun x1_ =>
  cX13_rub_16 n n S a0 x2 x3 x1_ (0 : Int32) (0 : Int32)
set_option maxRecDepth 20000 in
set_option maxHeartbeats 4000000 in
theorem eX13_rub_in (n : Nat) (S : rvS) (a0 : Nat) (x1 : Int32) (x2 : Int32) (x3 : Int32) (S' : rvS) (h : fnX13_rub n S a0 x1 x2 x3 = some S') : rv_Ev mX13_rub 0 0 [(0, .ref a0), (1, .int x1), (2, .int x2), (3, .int x3)] [] S none S' := by
  unfold fnX13_rub at h
  refine re_sipush (pc := 0) (132 : Int32) (by decide +kernel : decode cX13_rub 0 = .ok (.sipush 132, 3)) (by decide) ?_
  refine re_bipush (pc := 3) (6 : Int32) (by decide +kernel : decode cX13_rub 3 = .ok (.bipush 6, 2)) (by decide) ?_
  refine re_iloadn (pc := 5) 1 (by decide +kernel : decode cX13_rub 5 = .ok (.iload_n 1, 1)) rfl ?_
  refine re_imul (pc := 6) (by decide +kernel : decode cX13_rub 6 = .ok (.imul, 1)) ?_
  refine re_iadd (pc := 7) (by decide +kernel : decode cX13_rub 7 = .ok (.iadd, 1)) ?_
  obtain ⟨x1_, g2_, h⟩ := rv_lt_e h
  refine re_nI (pc := 8) g2_ ?_
  refine re_istore (pc := 8) (lv1 := [(4, .int x1_), (0, .ref a0), (1, .int x1), (2, .int x2), (3, .int x3)]) (by decide +kernel : decode cX13_rub 8 = .ok (.istore 4, 2)) (by decide) rfl ?_
  refine re_iconst (pc := 10) (0 : Int32) (by decide +kernel : decode cX13_rub 10 = .ok (.iconst 0, 1)) (by decide) ?_
  refine re_istore (pc := 11) (lv1 := [(5, .int (0 : Int32)), (4, .int x1_), (0, .ref a0), (1, .int x1), (2, .int x2), (3, .int x3)]) (by decide +kernel : decode cX13_rub 11 = .ok (.istore 5, 2)) (by decide) rfl ?_
  refine re_iconst (pc := 13) (0 : Int32) (by decide +kernel : decode cX13_rub 13 = .ok (.iconst 0, 1)) (by decide) ?_
  refine re_istore (pc := 14) (lv1 := [(6, .int (0 : Int32)), (5, .int (0 : Int32)), (4, .int x1_), (0, .ref a0), (1, .int x1), (2, .int x2), (3, .int x3)]) (by decide +kernel : decode cX13_rub 14 = .ok (.istore 6, 2)) (by decide) rfl ?_
  refine re_sub [3, 5, 6, 2, 1, 0] (lv1 := [(0, .ref a0), (2, .int x2), (3, .int x3), (4, .int x1_), (5, .int (0 : Int32)), (6, .int (0 : Int32))]) rfl ?_
  exact eX13_rub_16 n n S a0 x2 x3 x1_ (0 : Int32) (0 : Int32) _ h
theorem metX13_rub (n : Nat) (S : rvS) (a0 : Nat) (x1 : Int32) (x2 : Int32) (x3 : Int32) (S' : rvS) (h : fnX13_rub n S a0 x1 x2 x3 = some S') : rv_Met yX13_rub mX13_rub 0 [.ref a0, .int x1, .int x2, .int x3] S none S' := rv_Met.of ⟨by decide +kernel, rfl, (fun z => by first | rfl | cases z), rfl⟩ (Nat.le_of_ble_eq_true rfl) rfl (eX13_rub_in n S a0 x1 x2 x3 S' h)
noncomputable def cX13_dies_107 (n : Nat) (K67 : Nat → Int32 → Int32 → Int32 → Int32 → rvS → Option (Int32 × rvS)) (S : rvS) (a0 : Nat) (x1 : Int32) (x2 : Int32) (x3 : Int32) (x4 : Int32) : Option (Int32 × rvS) :=
  (rv_gR S 11 a0 14).bind fun a1_ =>
  (rv_aI S 0 a1_ (5 : Int32)).bind fun x3_ =>
  if x3_ = (1 : Int32) then (
    rv_lt (x4 + (1)) fun x6_ =>
    K67 a0 x1 x2 x3 x6_ S)
  else (
    (rv_ck S 11 a0).bind fun u8_ =>
    (fnX13_rub n S a0 x4 x1 x2).bind fun S11_ =>
    rv_lt (x4 + (1)) fun x14_ =>
    K67 a0 x1 x2 x3 x14_ S11_)
set_option maxRecDepth 20000 in
set_option maxHeartbeats 4000000 in
theorem eX13_dies_107 (n : Nat) (K67 : Nat → Int32 → Int32 → Int32 → Int32 → rvS → Option (Int32 × rvS)) (hK67 : ∀ (a0 : Nat) (x1 : Int32) (x2 : Int32) (x3 : Int32) (x4 : Int32) (S : rvS) (r : Int32) (S' : rvS), K67 a0 x1 x2 x3 x4 S = some (r, S') → rv_Ev mX13_dies 2 67 [(0, .ref a0), (1, .int x1), (2, .int x2), (3, .int x3), (4, .int x4)] [] S (some (.int r)) S') (S : rvS) (a0 : Nat) (x1 : Int32) (x2 : Int32) (x3 : Int32) (x4 : Int32) (r : Int32) (S' : rvS) (h : cX13_dies_107 n K67 S a0 x1 x2 x3 x4 = some (r, S')) : rv_Ev mX13_dies 2 107 [(0, .ref a0), (1, .int x1), (2, .int x2), (3, .int x3), (4, .int x4)] [] S (some (.int r)) S' := by
  unfold cX13_dies_107 at h
  refine re_aloadn (pc := 107) 0 (by decide +kernel : decode cX13_dies 107 = .ok (.aload_n 0, 1)) rfl ?_
  obtain ⟨a1_, g2_, h⟩ := rv_b_e h
  refine re_gR (pc := 108) g2_ lfX13_13 rfl (by decide +kernel : decode cX13_dies 108 = .ok (.getfield 13, 3)) ?_
  refine re_iconst (pc := 111) (5 : Int32) (by decide +kernel : decode cX13_dies 111 = .ok (.iconst 5, 1)) (by decide) ?_
  obtain ⟨x3_, g4_, h⟩ := rv_b_e h
  refine re_aI (pc := 112) g4_ (by decide +kernel : decode cX13_dies 112 = .ok (.iaload, 1)) ?_
  refine re_iconst (pc := 113) (1 : Int32) (by decide +kernel : decode cX13_dies 113 = .ok (.iconst 1, 1)) (by decide) ?_
  rcases rv_if_e h with ⟨g5_, h⟩ | ⟨g5_, h⟩
  · refine re_icmp_eq_t (pc := 114) 125 (by decide +kernel : decode cX13_dies 114 = .ok (.if_icmp .eq 11, 3)) (by decide) g5_ ?_
    obtain ⟨x6_, g7_, h⟩ := rv_lt_e h
    refine re_iinc (pc := 125) 4 x6_ (lv1 := [(4, .int x6_), (0, .ref a0), (1, .int x1), (2, .int x2), (3, .int x3)]) (by decide +kernel : decode cX13_dies 125 = .ok (.iinc 4 1, 3)) rfl g7_ (by decide) rfl ?_
    refine re_goto (pc := 128) 67 (by decide +kernel : decode cX13_dies 128 = .ok (.goto (-61), 3)) (by decide) ?_
    refine re_sub [1, 2, 3, 4, 0] (lv1 := [(0, .ref a0), (1, .int x1), (2, .int x2), (3, .int x3), (4, .int x6_)]) rfl ?_
    exact hK67 a0 x1 x2 x3 x6_ S _ _ h
  · refine re_icmp_eq_f (pc := 114) 125 (by decide +kernel : decode cX13_dies 114 = .ok (.if_icmp .eq 11, 3)) (by decide) g5_ ?_
    refine re_aloadn (pc := 117) 0 (by decide +kernel : decode cX13_dies 117 = .ok (.aload_n 0, 1)) rfl ?_
    refine re_iload (pc := 118) 4 (by decide +kernel : decode cX13_dies 118 = .ok (.iload 4, 2)) rfl ?_
    refine re_iloadn (pc := 120) 1 (by decide +kernel : decode cX13_dies 120 = .ok (.iload_n 1, 1)) rfl ?_
    refine re_iloadn (pc := 121) 2 (by decide +kernel : decode cX13_dies 121 = .ok (.iload_n 2, 1)) rfl ?_
    obtain ⟨u8_, g9_, h⟩ := rv_b_e h
    obtain ⟨S11_, g12_, h⟩ := rv_b_e h
    have m10_ := metX13_rub n S a0 x4 x1 x2 _ g12_
    have z13_ : rv_same S S11_ := m10_.sh rfl
    refine re_cV (pc := 122) [.int x4, .int x1, .int x2] m10_ (rv_okl.k z13_) (rv_up.sh z13_) (by decide) (rv_ck_e g9_) ⟨by decide, rfl⟩ (Nat.le_of_ble_eq_true rfl) lVX13_356 rfl (by decide +kernel : decode cX13_dies 122 = .ok (.invokevirtual 356, 3)) ?_
    obtain ⟨x14_, g15_, h⟩ := rv_lt_e h
    refine re_iinc (pc := 125) 4 x14_ (lv1 := [(4, .int x14_), (0, .ref a0), (1, .int x1), (2, .int x2), (3, .int x3)]) (by decide +kernel : decode cX13_dies 125 = .ok (.iinc 4 1, 3)) rfl g15_ (by decide) rfl ?_
    refine re_goto (pc := 128) 67 (by decide +kernel : decode cX13_dies 128 = .ok (.goto (-61), 3)) (by decide) ?_
    refine re_sub [1, 2, 3, 4, 0] (lv1 := [(0, .ref a0), (1, .int x1), (2, .int x2), (3, .int x3), (4, .int x14_)]) rfl ?_
    exact hK67 a0 x1 x2 x3 x14_ S11_ _ _ h
noncomputable def cX13_dies_67 (n : Nat) : Nat → rvS → Nat → Int32 → Int32 → Int32 → Int32 → Option (Int32 × rvS)
  | 0, _, _, _, _, _, _ => none
  | k + 1, S, a0, x1, x2, x3, x4 =>
    (rv_ck S 11 a0).bind fun u1_ =>
    (fnX13_coins n S a0).bind fun x4_ =>
    if x4_ ≤ x4 then (
      some (x3, S))
    else (
      (rv_ck S 11 a0).bind fun u7_ =>
      (fnX13_ofCoin n S a0 x4 (1 : Int32)).bind fun x10_ =>
      if x10_ = x1 then (
        (rv_gR S 11 a0 14).bind fun a13_ =>
        (rv_uI S a13_ (((132 : Int32) + ((6 : Int32) * x4)) + (1 : Int32)) x2).bind fun S15_ =>
        rv_lt (x3 + (1)) fun x17_ =>
        cX13_dies_107 n (fun a0 x1 x2 x3 x4 S => cX13_dies_67 n k S a0 x1 x2 x3 x4) S15_ a0 x1 x2 x17_ x4)
      else (
        cX13_dies_107 n (fun a0 x1 x2 x3 x4 S => cX13_dies_67 n k S a0 x1 x2 x3 x4) S a0 x1 x2 x3 x4))
set_option maxRecDepth 20000 in
set_option maxHeartbeats 4000000 in
theorem eX13_dies_67 (n : Nat) : ∀ (k : Nat) (S : rvS) (a0 : Nat) (x1 : Int32) (x2 : Int32) (x3 : Int32) (x4 : Int32) (r : Int32) (S' : rvS), cX13_dies_67 n k S a0 x1 x2 x3 x4 = some (r, S') → rv_Ev mX13_dies 2 67 [(0, .ref a0), (1, .int x1), (2, .int x2), (3, .int x3), (4, .int x4)] [] S (some (.int r)) S' := by
  intro k
  induction k with
  | zero => intro S a0 x1 x2 x3 x4 r S' h; exact absurd h (by simp [cX13_dies_67])
  | succ k ih =>
    intro S a0 x1 x2 x3 x4 r S' h
    unfold cX13_dies_67 at h
    refine re_iload (pc := 67) 4 (by decide +kernel : decode cX13_dies 67 = .ok (.iload 4, 2)) rfl ?_
    refine re_aloadn (pc := 69) 0 (by decide +kernel : decode cX13_dies 69 = .ok (.aload_n 0, 1)) rfl ?_
    obtain ⟨u1_, g2_, h⟩ := rv_b_e h
    obtain ⟨x4_, g5_, h⟩ := rv_b_e h
    have m3_ := metX13_coins n S a0 _ g5_
    refine re_cV (pc := 70) [] m3_ (rv_okl.k ⟨rfl, rfl⟩) (rv_up.rf _ _) (by decide) (rv_ck_e g2_) ⟨by decide, rfl⟩ (Nat.le_of_ble_eq_true rfl) lVX13_258 rfl (by decide +kernel : decode cX13_dies 70 = .ok (.invokevirtual 258, 3)) ?_
    rcases rv_if_e h with ⟨g6_, h⟩ | ⟨g6_, h⟩
    · refine re_icmp_ge_t (pc := 73) 131 (by decide +kernel : decode cX13_dies 73 = .ok (.if_icmp .ge 58, 3)) (by decide) g6_ ?_
      refine re_iloadn (pc := 131) 3 (by decide +kernel : decode cX13_dies 131 = .ok (.iload_n 3, 1)) rfl ?_
      cases h
      exact re_iret (fun ty hty => by cases hty; rfl) (by decide +kernel : decode cX13_dies 132 = .ok (.ireturn, 1))
    · refine re_icmp_ge_f (pc := 73) 131 (by decide +kernel : decode cX13_dies 73 = .ok (.if_icmp .ge 58, 3)) (by decide) g6_ ?_
      refine re_aloadn (pc := 76) 0 (by decide +kernel : decode cX13_dies 76 = .ok (.aload_n 0, 1)) rfl ?_
      refine re_iload (pc := 77) 4 (by decide +kernel : decode cX13_dies 77 = .ok (.iload 4, 2)) rfl ?_
      refine re_iconst (pc := 79) (1 : Int32) (by decide +kernel : decode cX13_dies 79 = .ok (.iconst 1, 1)) (by decide) ?_
      obtain ⟨u7_, g8_, h⟩ := rv_b_e h
      obtain ⟨x10_, g11_, h⟩ := rv_b_e h
      have m9_ := metX13_ofCoin n S a0 x4 (1 : Int32) _ g11_
      refine re_cV (pc := 80) [.int x4, .int (1 : Int32)] m9_ (rv_okl.k ⟨rfl, rfl⟩) (rv_up.rf _ _) (by decide) (rv_ck_e g8_) ⟨by decide, rfl⟩ (Nat.le_of_ble_eq_true rfl) lVX13_271 rfl (by decide +kernel : decode cX13_dies 80 = .ok (.invokevirtual 271, 3)) ?_
      refine re_iloadn (pc := 83) 1 (by decide +kernel : decode cX13_dies 83 = .ok (.iload_n 1, 1)) rfl ?_
      rcases rv_if_e h with ⟨g12_, h⟩ | ⟨g12_, h⟩
      · refine re_icmp_ne_f (pc := 84) 107 (by decide +kernel : decode cX13_dies 84 = .ok (.if_icmp .ne 23, 3)) (by decide) g12_ ?_
        refine re_aloadn (pc := 87) 0 (by decide +kernel : decode cX13_dies 87 = .ok (.aload_n 0, 1)) rfl ?_
        obtain ⟨a13_, g14_, h⟩ := rv_b_e h
        refine re_gR (pc := 88) g14_ lfX13_13 rfl (by decide +kernel : decode cX13_dies 88 = .ok (.getfield 13, 3)) ?_
        refine re_sipush (pc := 91) (132 : Int32) (by decide +kernel : decode cX13_dies 91 = .ok (.sipush 132, 3)) (by decide) ?_
        refine re_bipush (pc := 94) (6 : Int32) (by decide +kernel : decode cX13_dies 94 = .ok (.bipush 6, 2)) (by decide) ?_
        refine re_iload (pc := 96) 4 (by decide +kernel : decode cX13_dies 96 = .ok (.iload 4, 2)) rfl ?_
        refine re_imul (pc := 98) (by decide +kernel : decode cX13_dies 98 = .ok (.imul, 1)) ?_
        refine re_iadd (pc := 99) (by decide +kernel : decode cX13_dies 99 = .ok (.iadd, 1)) ?_
        refine re_iconst (pc := 100) (1 : Int32) (by decide +kernel : decode cX13_dies 100 = .ok (.iconst 1, 1)) (by decide) ?_
        refine re_iadd (pc := 101) (by decide +kernel : decode cX13_dies 101 = .ok (.iadd, 1)) ?_
        refine re_iloadn (pc := 102) 2 (by decide +kernel : decode cX13_dies 102 = .ok (.iload_n 2, 1)) rfl ?_
        obtain ⟨S15_, g16_, h⟩ := rv_b_e h
        refine re_uI (pc := 103) g16_ (by decide +kernel : decode cX13_dies 103 = .ok (.iastore, 1)) ?_
        obtain ⟨x17_, g18_, h⟩ := rv_lt_e h
        refine re_iinc (pc := 104) 3 x17_ (lv1 := [(3, .int x17_), (0, .ref a0), (1, .int x1), (2, .int x2), (4, .int x4)]) (by decide +kernel : decode cX13_dies 104 = .ok (.iinc 3 1, 3)) rfl g18_ (by decide) rfl ?_
        refine re_sub [1, 2, 3, 0, 4] (lv1 := [(0, .ref a0), (1, .int x1), (2, .int x2), (3, .int x17_), (4, .int x4)]) rfl ?_
        exact eX13_dies_107 n (fun a0 x1 x2 x3 x4 S => cX13_dies_67 n k S a0 x1 x2 x3 x4) (fun a0 x1 x2 x3 x4 S _ _ h => ih S a0 x1 x2 x3 x4 _ _ h) S15_ a0 x1 x2 x17_ x4 _ _ h
      · refine re_icmp_ne_t (pc := 84) 107 (by decide +kernel : decode cX13_dies 84 = .ok (.if_icmp .ne 23, 3)) (by decide) g12_ ?_
        exact eX13_dies_107 n (fun a0 x1 x2 x3 x4 S => cX13_dies_67 n k S a0 x1 x2 x3 x4) (fun a0 x1 x2 x3 x4 S _ _ h => ih S a0 x1 x2 x3 x4 _ _ h) S a0 x1 x2 x3 x4 _ _ h
noncomputable def fnX13_dies (n : Nat) (S : rvS) (a0 : Nat) (x1 : Int32) (x2 : Int32) : Option (Int32 × rvS) :=
  (rv_pI S 11 a0 0 (0 : Int32)).bind fun S1_ =>
  (rv_ck S1_ 11 a0).bind fun u3_ =>
  (fnX13_lay n S1_ a0).bind fun S6_ =>
  (rv_ck S6_ 11 a0).bind fun u9_ =>
  (fnX13_isWho n S6_ a0 x1).bind fun x12_ =>
  if x12_ = 0 then (
    some ((-1 : Int32), S6_))
  else (
    (rv_ck S6_ 11 a0).bind fun u15_ =>
    (fnX13_isWho n S6_ a0 x2).bind fun x18_ =>
    if x18_ = 0 then (
      some ((-1 : Int32), S6_))
    else (
      if x1 = x2 then (
        some ((-1 : Int32), S6_))
      else (
        (rv_ck S6_ 11 a0).bind fun u22_ =>
        (fnX13_isDead n S6_ a0 x1).bind fun x25_ =>
        if x25_ = 0 then (
          (rv_ck S6_ 11 a0).bind fun u28_ =>
          (fnX13_isDead n S6_ a0 x2).bind fun x31_ =>
          if x31_ = 0 then (
            (rv_gR S6_ 11 a0 14).bind fun a34_ =>
            (rv_uI S6_ a34_ (((8 : Int32) + ((5 : Int32) * x1)) + (2 : Int32)) (1 : Int32)).bind fun S36_ =>
            cX13_dies_67 n n S36_ a0 x1 x2 (0 : Int32) (0 : Int32))
          else (
            some ((-1 : Int32), S6_)))
        else (
          some ((-1 : Int32), S6_)))))
set_option maxRecDepth 20000 in
set_option maxHeartbeats 4000000 in
theorem eX13_dies_in (n : Nat) (S : rvS) (a0 : Nat) (x1 : Int32) (x2 : Int32) (r : Int32) (S' : rvS) (h : fnX13_dies n S a0 x1 x2 = some (r, S')) : rv_Ev mX13_dies 2 0 [(0, .ref a0), (1, .int x1), (2, .int x2)] [] S (some (.int r)) S' := by
  unfold fnX13_dies at h
  refine re_aloadn (pc := 0) 0 (by decide +kernel : decode cX13_dies 0 = .ok (.aload_n 0, 1)) rfl ?_
  refine re_iconst (pc := 1) (0 : Int32) (by decide +kernel : decode cX13_dies 1 = .ok (.iconst 0, 1)) (by decide) ?_
  obtain ⟨S1_, g2_, h⟩ := rv_b_e h
  refine re_pI (pc := 2) g2_ lfX13_99 rfl rfl rfl rfl (by decide +kernel : decode cX13_dies 2 = .ok (.putfield 99, 3)) ?_
  refine re_aloadn (pc := 5) 0 (by decide +kernel : decode cX13_dies 5 = .ok (.aload_n 0, 1)) rfl ?_
  obtain ⟨u3_, g4_, h⟩ := rv_b_e h
  obtain ⟨S6_, g7_, h⟩ := rv_b_e h
  have m5_ := metX13_lay n S1_ a0 _ g7_
  have z8_ : rv_same S1_ S6_ := m5_.sh rfl
  refine re_cV (pc := 6) [] m5_ (rv_okl.k z8_) (rv_up.sh z8_) (by decide) (rv_ck_e g4_) ⟨by decide, rfl⟩ (Nat.le_of_ble_eq_true rfl) lVX13_187 rfl (by decide +kernel : decode cX13_dies 6 = .ok (.invokevirtual 187, 3)) ?_
  refine re_aloadn (pc := 9) 0 (by decide +kernel : decode cX13_dies 9 = .ok (.aload_n 0, 1)) rfl ?_
  refine re_iloadn (pc := 10) 1 (by decide +kernel : decode cX13_dies 10 = .ok (.iload_n 1, 1)) rfl ?_
  obtain ⟨u9_, g10_, h⟩ := rv_b_e h
  obtain ⟨x12_, g13_, h⟩ := rv_b_e h
  have m11_ := metX13_isWho n S6_ a0 x1 _ g13_
  refine re_cV (pc := 11) [.int x1] m11_ (rv_okl.k ⟨rfl, rfl⟩) (rv_up.rf _ _) (by decide) (rv_ck_e g10_) ⟨by decide, rfl⟩ (Nat.le_of_ble_eq_true rfl) lVX13_265 rfl (by decide +kernel : decode cX13_dies 11 = .ok (.invokevirtual 265, 3)) ?_
  rcases rv_if_e h with ⟨g14_, h⟩ | ⟨g14_, h⟩
  · refine re_if_eq_t (pc := 14) 46 (by decide +kernel : decode cX13_dies 14 = .ok (.ifCond .eq 32, 3)) (by decide) g14_ ?_
    refine re_iconst (pc := 46) (-1 : Int32) (by decide +kernel : decode cX13_dies 46 = .ok (.iconst (-1), 1)) (by decide) ?_
    cases h
    exact re_iret (fun ty hty => by cases hty; rfl) (by decide +kernel : decode cX13_dies 47 = .ok (.ireturn, 1))
  · refine re_if_eq_f (pc := 14) 46 (by decide +kernel : decode cX13_dies 14 = .ok (.ifCond .eq 32, 3)) (by decide) g14_ ?_
    refine re_aloadn (pc := 17) 0 (by decide +kernel : decode cX13_dies 17 = .ok (.aload_n 0, 1)) rfl ?_
    refine re_iloadn (pc := 18) 2 (by decide +kernel : decode cX13_dies 18 = .ok (.iload_n 2, 1)) rfl ?_
    obtain ⟨u15_, g16_, h⟩ := rv_b_e h
    obtain ⟨x18_, g19_, h⟩ := rv_b_e h
    have m17_ := metX13_isWho n S6_ a0 x2 _ g19_
    refine re_cV (pc := 19) [.int x2] m17_ (rv_okl.k ⟨rfl, rfl⟩) (rv_up.rf _ _) (by decide) (rv_ck_e g16_) ⟨by decide, rfl⟩ (Nat.le_of_ble_eq_true rfl) lVX13_265 rfl (by decide +kernel : decode cX13_dies 19 = .ok (.invokevirtual 265, 3)) ?_
    rcases rv_if_e h with ⟨g20_, h⟩ | ⟨g20_, h⟩
    · refine re_if_eq_t (pc := 22) 46 (by decide +kernel : decode cX13_dies 22 = .ok (.ifCond .eq 24, 3)) (by decide) g20_ ?_
      refine re_iconst (pc := 46) (-1 : Int32) (by decide +kernel : decode cX13_dies 46 = .ok (.iconst (-1), 1)) (by decide) ?_
      cases h
      exact re_iret (fun ty hty => by cases hty; rfl) (by decide +kernel : decode cX13_dies 47 = .ok (.ireturn, 1))
    · refine re_if_eq_f (pc := 22) 46 (by decide +kernel : decode cX13_dies 22 = .ok (.ifCond .eq 24, 3)) (by decide) g20_ ?_
      refine re_iloadn (pc := 25) 1 (by decide +kernel : decode cX13_dies 25 = .ok (.iload_n 1, 1)) rfl ?_
      refine re_iloadn (pc := 26) 2 (by decide +kernel : decode cX13_dies 26 = .ok (.iload_n 2, 1)) rfl ?_
      rcases rv_if_e h with ⟨g21_, h⟩ | ⟨g21_, h⟩
      · refine re_icmp_eq_t (pc := 27) 46 (by decide +kernel : decode cX13_dies 27 = .ok (.if_icmp .eq 19, 3)) (by decide) g21_ ?_
        refine re_iconst (pc := 46) (-1 : Int32) (by decide +kernel : decode cX13_dies 46 = .ok (.iconst (-1), 1)) (by decide) ?_
        cases h
        exact re_iret (fun ty hty => by cases hty; rfl) (by decide +kernel : decode cX13_dies 47 = .ok (.ireturn, 1))
      · refine re_icmp_eq_f (pc := 27) 46 (by decide +kernel : decode cX13_dies 27 = .ok (.if_icmp .eq 19, 3)) (by decide) g21_ ?_
        refine re_aloadn (pc := 30) 0 (by decide +kernel : decode cX13_dies 30 = .ok (.aload_n 0, 1)) rfl ?_
        refine re_iloadn (pc := 31) 1 (by decide +kernel : decode cX13_dies 31 = .ok (.iload_n 1, 1)) rfl ?_
        obtain ⟨u22_, g23_, h⟩ := rv_b_e h
        obtain ⟨x25_, g26_, h⟩ := rv_b_e h
        have m24_ := metX13_isDead n S6_ a0 x1 _ g26_
        refine re_cV (pc := 32) [.int x1] m24_ (rv_okl.k ⟨rfl, rfl⟩) (rv_up.rf _ _) (by decide) (rv_ck_e g23_) ⟨by decide, rfl⟩ (Nat.le_of_ble_eq_true rfl) lVX13_292 rfl (by decide +kernel : decode cX13_dies 32 = .ok (.invokevirtual 292, 3)) ?_
        rcases rv_if_e h with ⟨g27_, h⟩ | ⟨g27_, h⟩
        · refine re_if_ne_f (pc := 35) 46 (by decide +kernel : decode cX13_dies 35 = .ok (.ifCond .ne 11, 3)) (by decide) g27_ ?_
          refine re_aloadn (pc := 38) 0 (by decide +kernel : decode cX13_dies 38 = .ok (.aload_n 0, 1)) rfl ?_
          refine re_iloadn (pc := 39) 2 (by decide +kernel : decode cX13_dies 39 = .ok (.iload_n 2, 1)) rfl ?_
          obtain ⟨u28_, g29_, h⟩ := rv_b_e h
          obtain ⟨x31_, g32_, h⟩ := rv_b_e h
          have m30_ := metX13_isDead n S6_ a0 x2 _ g32_
          refine re_cV (pc := 40) [.int x2] m30_ (rv_okl.k ⟨rfl, rfl⟩) (rv_up.rf _ _) (by decide) (rv_ck_e g29_) ⟨by decide, rfl⟩ (Nat.le_of_ble_eq_true rfl) lVX13_292 rfl (by decide +kernel : decode cX13_dies 40 = .ok (.invokevirtual 292, 3)) ?_
          rcases rv_if_e h with ⟨g33_, h⟩ | ⟨g33_, h⟩
          · refine re_if_eq_t (pc := 43) 48 (by decide +kernel : decode cX13_dies 43 = .ok (.ifCond .eq 5, 3)) (by decide) g33_ ?_
            refine re_aloadn (pc := 48) 0 (by decide +kernel : decode cX13_dies 48 = .ok (.aload_n 0, 1)) rfl ?_
            obtain ⟨a34_, g35_, h⟩ := rv_b_e h
            refine re_gR (pc := 49) g35_ lfX13_13 rfl (by decide +kernel : decode cX13_dies 49 = .ok (.getfield 13, 3)) ?_
            refine re_bipush (pc := 52) (8 : Int32) (by decide +kernel : decode cX13_dies 52 = .ok (.bipush 8, 2)) (by decide) ?_
            refine re_iconst (pc := 54) (5 : Int32) (by decide +kernel : decode cX13_dies 54 = .ok (.iconst 5, 1)) (by decide) ?_
            refine re_iloadn (pc := 55) 1 (by decide +kernel : decode cX13_dies 55 = .ok (.iload_n 1, 1)) rfl ?_
            refine re_imul (pc := 56) (by decide +kernel : decode cX13_dies 56 = .ok (.imul, 1)) ?_
            refine re_iadd (pc := 57) (by decide +kernel : decode cX13_dies 57 = .ok (.iadd, 1)) ?_
            refine re_iconst (pc := 58) (2 : Int32) (by decide +kernel : decode cX13_dies 58 = .ok (.iconst 2, 1)) (by decide) ?_
            refine re_iadd (pc := 59) (by decide +kernel : decode cX13_dies 59 = .ok (.iadd, 1)) ?_
            refine re_iconst (pc := 60) (1 : Int32) (by decide +kernel : decode cX13_dies 60 = .ok (.iconst 1, 1)) (by decide) ?_
            obtain ⟨S36_, g37_, h⟩ := rv_b_e h
            refine re_uI (pc := 61) g37_ (by decide +kernel : decode cX13_dies 61 = .ok (.iastore, 1)) ?_
            refine re_iconst (pc := 62) (0 : Int32) (by decide +kernel : decode cX13_dies 62 = .ok (.iconst 0, 1)) (by decide) ?_
            refine re_istoren (pc := 63) (lv1 := [(3, .int (0 : Int32)), (0, .ref a0), (1, .int x1), (2, .int x2)]) (by decide +kernel : decode cX13_dies 63 = .ok (.istore_n 3, 1)) rfl (by decide) rfl ?_
            refine re_iconst (pc := 64) (0 : Int32) (by decide +kernel : decode cX13_dies 64 = .ok (.iconst 0, 1)) (by decide) ?_
            refine re_istore (pc := 65) (lv1 := [(4, .int (0 : Int32)), (3, .int (0 : Int32)), (0, .ref a0), (1, .int x1), (2, .int x2)]) (by decide +kernel : decode cX13_dies 65 = .ok (.istore 4, 2)) (by decide) rfl ?_
            refine re_sub [2, 3, 4, 1, 0] (lv1 := [(0, .ref a0), (1, .int x1), (2, .int x2), (3, .int (0 : Int32)), (4, .int (0 : Int32))]) rfl ?_
            exact eX13_dies_67 n n S36_ a0 x1 x2 (0 : Int32) (0 : Int32) _ _ h
          · refine re_if_eq_f (pc := 43) 48 (by decide +kernel : decode cX13_dies 43 = .ok (.ifCond .eq 5, 3)) (by decide) g33_ ?_
            refine re_iconst (pc := 46) (-1 : Int32) (by decide +kernel : decode cX13_dies 46 = .ok (.iconst (-1), 1)) (by decide) ?_
            cases h
            exact re_iret (fun ty hty => by cases hty; rfl) (by decide +kernel : decode cX13_dies 47 = .ok (.ireturn, 1))
        · refine re_if_ne_t (pc := 35) 46 (by decide +kernel : decode cX13_dies 35 = .ok (.ifCond .ne 11, 3)) (by decide) g27_ ?_
          refine re_iconst (pc := 46) (-1 : Int32) (by decide +kernel : decode cX13_dies 46 = .ok (.iconst (-1), 1)) (by decide) ?_
          cases h
          exact re_iret (fun ty hty => by cases hty; rfl) (by decide +kernel : decode cX13_dies 47 = .ok (.ireturn, 1))
theorem metX13_dies (n : Nat) (S : rvS) (a0 : Nat) (x1 : Int32) (x2 : Int32) (r : Int32) (S' : rvS) (h : fnX13_dies n S a0 x1 x2 = some (r, S')) : rv_Met yX13_dies mX13_dies 2 [.ref a0, .int x1, .int x2] S (some (.int r)) S' := rv_Met.of ⟨by decide +kernel, rfl, (fun z => by first | rfl | cases z), rfl⟩ (Nat.le_of_ble_eq_true rfl) rfl (eX13_dies_in n S a0 x1 x2 r S' h)
noncomputable def fnX13_isStuck (n : Nat) (S : rvS) (a0 : Nat) (x1 : Int32) : Option (Int32 × rvS) :=
  (rv_ck S 11 a0).bind fun u1_ =>
  rv_bp (fnX13_whomOf n S a0 x1) fun x4_ S5_ =>
  if x4_ = 0 then (
    some ((1 : Int32), S5_))
  else (
    some ((0 : Int32), S5_))
set_option maxRecDepth 20000 in
set_option maxHeartbeats 4000000 in
theorem eX13_isStuck_in (n : Nat) (S : rvS) (a0 : Nat) (x1 : Int32) (r : Int32) (S' : rvS) (h : fnX13_isStuck n S a0 x1 = some (r, S')) : rv_Ev mX13_isStuck 5 0 [(0, .ref a0), (1, .int x1)] [] S (some (.int r)) S' := by
  unfold fnX13_isStuck at h
  refine re_aloadn (pc := 0) 0 (by decide +kernel : decode cX13_isStuck 0 = .ok (.aload_n 0, 1)) rfl ?_
  refine re_iloadn (pc := 1) 1 (by decide +kernel : decode cX13_isStuck 1 = .ok (.iload_n 1, 1)) rfl ?_
  obtain ⟨u1_, g2_, h⟩ := rv_b_e h
  obtain ⟨x4_, S5_, g6_, h⟩ := rv_bp_e h
  have m3_ := metX13_whomOf n S a0 x1 _ _ g6_
  have z7_ : rv_same S S5_ := m3_.sh rfl
  refine re_cV (pc := 2) [.int x1] m3_ (rv_okl.k z7_) (rv_up.sh z7_) (by decide) (rv_ck_e g2_) ⟨by decide, rfl⟩ (Nat.le_of_ble_eq_true rfl) lVX13_280 rfl (by decide +kernel : decode cX13_isStuck 2 = .ok (.invokevirtual 280, 3)) ?_
  rcases rv_if_e h with ⟨g8_, h⟩ | ⟨g8_, h⟩
  · refine re_if_ne_f (pc := 5) 12 (by decide +kernel : decode cX13_isStuck 5 = .ok (.ifCond .ne 7, 3)) (by decide) g8_ ?_
    refine re_iconst (pc := 8) (1 : Int32) (by decide +kernel : decode cX13_isStuck 8 = .ok (.iconst 1, 1)) (by decide) ?_
    refine re_goto (pc := 9) 13 (by decide +kernel : decode cX13_isStuck 9 = .ok (.goto 4, 3)) (by decide) ?_
    cases h
    exact re_iret (fun ty hty => by cases hty; rfl) (by decide +kernel : decode cX13_isStuck 13 = .ok (.ireturn, 1))
  · refine re_if_ne_t (pc := 5) 12 (by decide +kernel : decode cX13_isStuck 5 = .ok (.ifCond .ne 7, 3)) (by decide) g8_ ?_
    refine re_iconst (pc := 12) (0 : Int32) (by decide +kernel : decode cX13_isStuck 12 = .ok (.iconst 0, 1)) (by decide) ?_
    cases h
    exact re_iret (fun ty hty => by cases hty; rfl) (by decide +kernel : decode cX13_isStuck 13 = .ok (.ireturn, 1))
theorem metX13_isStuck (n : Nat) (S : rvS) (a0 : Nat) (x1 : Int32) (r : Int32) (S' : rvS) (h : fnX13_isStuck n S a0 x1 = some (r, S')) : rv_Met yX13_isStuck mX13_isStuck 5 [.ref a0, .int x1] S (some (.int r)) S' := rv_Met.of ⟨by decide +kernel, rfl, (fun z => by first | rfl | cases z), rfl⟩ (Nat.le_of_ble_eq_true rfl) rfl (eX13_isStuck_in n S a0 x1 r S' h)
noncomputable def cX13_stuck_48 (n : Nat) (S : rvS) (x1 : Int32) (x2 : Int32) : Option (Int32 × rvS) :=
  if x1 = (-1 : Int32) then (
    some (x2, S))
  else (
    some ((-1 : Int32), S))
set_option maxRecDepth 20000 in
set_option maxHeartbeats 4000000 in
theorem eX13_stuck_48 (n : Nat) (S : rvS) (x1 : Int32) (x2 : Int32) (r : Int32) (S' : rvS) (h : cX13_stuck_48 n S x1 x2 = some (r, S')) : rv_Ev mX13_stuck 6 48 [(1, .int x1), (2, .int x2)] [] S (some (.int r)) S' := by
  unfold cX13_stuck_48 at h
  refine re_iloadn (pc := 48) 0 (by decide +kernel : decode cX13_stuck 48 = .ok (.iload_n 1, 1)) rfl ?_
  refine re_iconst (pc := 49) (-1 : Int32) (by decide +kernel : decode cX13_stuck 49 = .ok (.iconst (-1), 1)) (by decide) ?_
  rcases rv_if_e h with ⟨g1_, h⟩ | ⟨g1_, h⟩
  · refine re_icmp_ne_f (pc := 50) 57 (by decide +kernel : decode cX13_stuck 50 = .ok (.if_icmp .ne 7, 3)) (by decide) g1_ ?_
    refine re_iloadn (pc := 53) 1 (by decide +kernel : decode cX13_stuck 53 = .ok (.iload_n 2, 1)) rfl ?_
    refine re_goto (pc := 54) 58 (by decide +kernel : decode cX13_stuck 54 = .ok (.goto 4, 3)) (by decide) ?_
    cases h
    exact re_iret (fun ty hty => by cases hty; rfl) (by decide +kernel : decode cX13_stuck 58 = .ok (.ireturn, 1))
  · refine re_icmp_ne_t (pc := 50) 57 (by decide +kernel : decode cX13_stuck 50 = .ok (.if_icmp .ne 7, 3)) (by decide) g1_ ?_
    refine re_iconst (pc := 57) (-1 : Int32) (by decide +kernel : decode cX13_stuck 57 = .ok (.iconst (-1), 1)) (by decide) ?_
    cases h
    exact re_iret (fun ty hty => by cases hty; rfl) (by decide +kernel : decode cX13_stuck 58 = .ok (.ireturn, 1))
noncomputable def cX13_stuck_13 (n : Nat) : Nat → rvS → Nat → Int32 → Int32 → Int32 → Option (Int32 × rvS)
  | 0, _, _, _, _, _ => none
  | k + 1, S, a0, x1, x2, x3 =>
    (rv_ck S 11 a0).bind fun u1_ =>
    (fnX13_coins n S a0).bind fun x4_ =>
    if x4_ ≤ x3 then (
      cX13_stuck_48 n S x1 x2)
    else (
      (rv_ck S 11 a0).bind fun u7_ =>
      rv_bp (fnX13_isStuck n S a0 x3) fun x10_ S11_ =>
      if x10_ = 0 then (
        rv_lt (x3 + (1)) fun x20_ =>
        cX13_stuck_13 n k S11_ a0 x1 x2 x20_)
      else (
        if x2 = x1 then (
          some (x3, S11_))
        else (
          rv_lt (x2 + (1)) fun x16_ =>
          rv_lt (x3 + (1)) fun x18_ =>
          cX13_stuck_13 n k S11_ a0 x1 x16_ x18_)))
set_option maxRecDepth 20000 in
set_option maxHeartbeats 4000000 in
theorem eX13_stuck_13 (n : Nat) : ∀ (k : Nat) (S : rvS) (a0 : Nat) (x1 : Int32) (x2 : Int32) (x3 : Int32) (r : Int32) (S' : rvS), cX13_stuck_13 n k S a0 x1 x2 x3 = some (r, S') → rv_Ev mX13_stuck 6 13 [(0, .ref a0), (1, .int x1), (2, .int x2), (3, .int x3)] [] S (some (.int r)) S' := by
  intro k
  induction k with
  | zero => intro S a0 x1 x2 x3 r S' h; exact absurd h (by simp [cX13_stuck_13])
  | succ k ih =>
    intro S a0 x1 x2 x3 r S' h
    unfold cX13_stuck_13 at h
    refine re_iloadn (pc := 13) 3 (by decide +kernel : decode cX13_stuck 13 = .ok (.iload_n 3, 1)) rfl ?_
    refine re_aloadn (pc := 14) 0 (by decide +kernel : decode cX13_stuck 14 = .ok (.aload_n 0, 1)) rfl ?_
    obtain ⟨u1_, g2_, h⟩ := rv_b_e h
    obtain ⟨x4_, g5_, h⟩ := rv_b_e h
    have m3_ := metX13_coins n S a0 _ g5_
    refine re_cV (pc := 15) [] m3_ (rv_okl.k ⟨rfl, rfl⟩) (rv_up.rf _ _) (by decide) (rv_ck_e g2_) ⟨by decide, rfl⟩ (Nat.le_of_ble_eq_true rfl) lVX13_258 rfl (by decide +kernel : decode cX13_stuck 15 = .ok (.invokevirtual 258, 3)) ?_
    rcases rv_if_e h with ⟨g6_, h⟩ | ⟨g6_, h⟩
    · refine re_icmp_ge_t (pc := 18) 48 (by decide +kernel : decode cX13_stuck 18 = .ok (.if_icmp .ge 30, 3)) (by decide) g6_ ?_
      refine re_sub [1, 2] (lv1 := [(1, .int x1), (2, .int x2)]) rfl ?_
      exact eX13_stuck_48 n S x1 x2 _ _ h
    · refine re_icmp_ge_f (pc := 18) 48 (by decide +kernel : decode cX13_stuck 18 = .ok (.if_icmp .ge 30, 3)) (by decide) g6_ ?_
      refine re_aloadn (pc := 21) 0 (by decide +kernel : decode cX13_stuck 21 = .ok (.aload_n 0, 1)) rfl ?_
      refine re_iloadn (pc := 22) 3 (by decide +kernel : decode cX13_stuck 22 = .ok (.iload_n 3, 1)) rfl ?_
      obtain ⟨u7_, g8_, h⟩ := rv_b_e h
      obtain ⟨x10_, S11_, g12_, h⟩ := rv_bp_e h
      have m9_ := metX13_isStuck n S a0 x3 _ _ g12_
      have z13_ : rv_same S S11_ := m9_.sh rfl
      refine re_cV (pc := 23) [.int x3] m9_ (rv_okl.k z13_) (rv_up.sh z13_) (by decide) (rv_ck_e g8_) ⟨by decide, rfl⟩ (Nat.le_of_ble_eq_true rfl) lVX13_360 rfl (by decide +kernel : decode cX13_stuck 23 = .ok (.invokevirtual 360, 3)) ?_
      rcases rv_if_e h with ⟨g14_, h⟩ | ⟨g14_, h⟩
      · refine re_if_ne_f (pc := 26) 32 (by decide +kernel : decode cX13_stuck 26 = .ok (.ifCond .ne 6, 3)) (by decide) g14_ ?_
        refine re_goto (pc := 29) 42 (by decide +kernel : decode cX13_stuck 29 = .ok (.goto 13, 3)) (by decide) ?_
        obtain ⟨x20_, g21_, h⟩ := rv_lt_e h
        refine re_iinc (pc := 42) 3 x20_ (lv1 := [(3, .int x20_), (0, .ref a0), (1, .int x1), (2, .int x2)]) (by decide +kernel : decode cX13_stuck 42 = .ok (.iinc 3 1, 3)) rfl g21_ (by decide) rfl ?_
        refine re_goto (pc := 45) 13 (by decide +kernel : decode cX13_stuck 45 = .ok (.goto (-32), 3)) (by decide) ?_
        refine re_sub [1, 2, 3, 0] (lv1 := [(0, .ref a0), (1, .int x1), (2, .int x2), (3, .int x20_)]) rfl ?_
        exact ih S11_ a0 x1 x2 x20_ _ _ h
      · refine re_if_ne_t (pc := 26) 32 (by decide +kernel : decode cX13_stuck 26 = .ok (.ifCond .ne 6, 3)) (by decide) g14_ ?_
        refine re_iloadn (pc := 32) 2 (by decide +kernel : decode cX13_stuck 32 = .ok (.iload_n 2, 1)) rfl ?_
        refine re_iloadn (pc := 33) 1 (by decide +kernel : decode cX13_stuck 33 = .ok (.iload_n 1, 1)) rfl ?_
        rcases rv_if_e h with ⟨g15_, h⟩ | ⟨g15_, h⟩
        · refine re_icmp_ne_f (pc := 34) 39 (by decide +kernel : decode cX13_stuck 34 = .ok (.if_icmp .ne 5, 3)) (by decide) g15_ ?_
          refine re_iloadn (pc := 37) 3 (by decide +kernel : decode cX13_stuck 37 = .ok (.iload_n 3, 1)) rfl ?_
          cases h
          exact re_iret (fun ty hty => by cases hty; rfl) (by decide +kernel : decode cX13_stuck 38 = .ok (.ireturn, 1))
        · refine re_icmp_ne_t (pc := 34) 39 (by decide +kernel : decode cX13_stuck 34 = .ok (.if_icmp .ne 5, 3)) (by decide) g15_ ?_
          obtain ⟨x16_, g17_, h⟩ := rv_lt_e h
          refine re_iinc (pc := 39) 2 x16_ (lv1 := [(2, .int x16_), (0, .ref a0), (1, .int x1), (3, .int x3)]) (by decide +kernel : decode cX13_stuck 39 = .ok (.iinc 2 1, 3)) rfl g17_ (by decide) rfl ?_
          obtain ⟨x18_, g19_, h⟩ := rv_lt_e h
          refine re_iinc (pc := 42) 3 x18_ (lv1 := [(3, .int x18_), (2, .int x16_), (0, .ref a0), (1, .int x1)]) (by decide +kernel : decode cX13_stuck 42 = .ok (.iinc 3 1, 3)) rfl g19_ (by decide) rfl ?_
          refine re_goto (pc := 45) 13 (by decide +kernel : decode cX13_stuck 45 = .ok (.goto (-32), 3)) (by decide) ?_
          refine re_sub [2, 3, 1, 0] (lv1 := [(0, .ref a0), (1, .int x1), (2, .int x16_), (3, .int x18_)]) rfl ?_
          exact ih S11_ a0 x1 x16_ x18_ _ _ h
noncomputable def fnX13_stuck (n : Nat) (S : rvS) (a0 : Nat) (x1 : Int32) : Option (Int32 × rvS) :=
  (rv_pI S 11 a0 0 (0 : Int32)).bind fun S1_ =>
  (rv_ck S1_ 11 a0).bind fun u3_ =>
  (fnX13_lay n S1_ a0).bind fun S6_ =>
  cX13_stuck_13 n n S6_ a0 x1 (0 : Int32) (0 : Int32)
set_option maxRecDepth 20000 in
set_option maxHeartbeats 4000000 in
theorem eX13_stuck_in (n : Nat) (S : rvS) (a0 : Nat) (x1 : Int32) (r : Int32) (S' : rvS) (h : fnX13_stuck n S a0 x1 = some (r, S')) : rv_Ev mX13_stuck 6 0 [(0, .ref a0), (1, .int x1)] [] S (some (.int r)) S' := by
  unfold fnX13_stuck at h
  refine re_aloadn (pc := 0) 0 (by decide +kernel : decode cX13_stuck 0 = .ok (.aload_n 0, 1)) rfl ?_
  refine re_iconst (pc := 1) (0 : Int32) (by decide +kernel : decode cX13_stuck 1 = .ok (.iconst 0, 1)) (by decide) ?_
  obtain ⟨S1_, g2_, h⟩ := rv_b_e h
  refine re_pI (pc := 2) g2_ lfX13_99 rfl rfl rfl rfl (by decide +kernel : decode cX13_stuck 2 = .ok (.putfield 99, 3)) ?_
  refine re_aloadn (pc := 5) 0 (by decide +kernel : decode cX13_stuck 5 = .ok (.aload_n 0, 1)) rfl ?_
  obtain ⟨u3_, g4_, h⟩ := rv_b_e h
  obtain ⟨S6_, g7_, h⟩ := rv_b_e h
  have m5_ := metX13_lay n S1_ a0 _ g7_
  have z8_ : rv_same S1_ S6_ := m5_.sh rfl
  refine re_cV (pc := 6) [] m5_ (rv_okl.k z8_) (rv_up.sh z8_) (by decide) (rv_ck_e g4_) ⟨by decide, rfl⟩ (Nat.le_of_ble_eq_true rfl) lVX13_187 rfl (by decide +kernel : decode cX13_stuck 6 = .ok (.invokevirtual 187, 3)) ?_
  refine re_iconst (pc := 9) (0 : Int32) (by decide +kernel : decode cX13_stuck 9 = .ok (.iconst 0, 1)) (by decide) ?_
  refine re_istoren (pc := 10) (lv1 := [(2, .int (0 : Int32)), (0, .ref a0), (1, .int x1)]) (by decide +kernel : decode cX13_stuck 10 = .ok (.istore_n 2, 1)) rfl (by decide) rfl ?_
  refine re_iconst (pc := 11) (0 : Int32) (by decide +kernel : decode cX13_stuck 11 = .ok (.iconst 0, 1)) (by decide) ?_
  refine re_istoren (pc := 12) (lv1 := [(3, .int (0 : Int32)), (2, .int (0 : Int32)), (0, .ref a0), (1, .int x1)]) (by decide +kernel : decode cX13_stuck 12 = .ok (.istore_n 3, 1)) rfl (by decide) rfl ?_
  refine re_sub [2, 3, 1, 0] (lv1 := [(0, .ref a0), (1, .int x1), (2, .int (0 : Int32)), (3, .int (0 : Int32))]) rfl ?_
  exact eX13_stuck_13 n n S6_ a0 x1 (0 : Int32) (0 : Int32) _ _ h
theorem metX13_stuck (n : Nat) (S : rvS) (a0 : Nat) (x1 : Int32) (r : Int32) (S' : rvS) (h : fnX13_stuck n S a0 x1 = some (r, S')) : rv_Met yX13_stuck mX13_stuck 6 [.ref a0, .int x1] S (some (.int r)) S' := rv_Met.of ⟨by decide +kernel, rfl, (fun z => by first | rfl | cases z), rfl⟩ (Nat.le_of_ble_eq_true rfl) rfl (eX13_stuck_in n S a0 x1 r S' h)
noncomputable def cX13_freesIn_4 (n : Nat) : Nat → rvS → Nat → Int32 → Int32 → Int32 → Option (Int32 × rvS)
  | 0, _, _, _, _, _ => none
  | k + 1, S, a0, x1, x2, x3 =>
    (rv_ck S 11 a0).bind fun u1_ =>
    (fnX13_coins n S a0).bind fun x4_ =>
    if x4_ ≤ x3 then (
      some (x2, S))
    else (
      (rv_ck S 11 a0).bind fun u7_ =>
      rv_bp (fnX13_isStuck n S a0 x3) fun x10_ S11_ =>
      if x10_ = 0 then (
        rv_lt (x3 + (1)) fun x15_ =>
        cX13_freesIn_4 n k S11_ a0 x1 x2 x15_)
      else (
        (rv_ck S11_ 11 a0).bind fun u17_ =>
        (fnX13_ofCoin n S11_ a0 x3 (1 : Int32)).bind fun x20_ =>
        (rv_ck S11_ 11 a0).bind fun u22_ =>
        (fnX13_ofWho n S11_ a0 x20_ (0 : Int32)).bind fun x25_ =>
        (rv_ck S11_ 11 a0).bind fun u27_ =>
        (fnX13_areNear n S11_ a0 x25_ x1).bind fun x30_ =>
        if x30_ = 0 then (
          rv_lt (x3 + (1)) fun x33_ =>
          cX13_freesIn_4 n k S11_ a0 x1 x2 x33_)
        else (
          rv_lt (x2 + (1)) fun x35_ =>
          rv_lt (x3 + (1)) fun x37_ =>
          cX13_freesIn_4 n k S11_ a0 x1 x35_ x37_)))
set_option maxRecDepth 20000 in
set_option maxHeartbeats 4000000 in
theorem eX13_freesIn_4 (n : Nat) : ∀ (k : Nat) (S : rvS) (a0 : Nat) (x1 : Int32) (x2 : Int32) (x3 : Int32) (r : Int32) (S' : rvS), cX13_freesIn_4 n k S a0 x1 x2 x3 = some (r, S') → rv_Ev mX13_freesIn 6 4 [(0, .ref a0), (1, .int x1), (2, .int x2), (3, .int x3)] [] S (some (.int r)) S' := by
  intro k
  induction k with
  | zero => intro S a0 x1 x2 x3 r S' h; exact absurd h (by simp [cX13_freesIn_4])
  | succ k ih =>
    intro S a0 x1 x2 x3 r S' h
    unfold cX13_freesIn_4 at h
    refine re_iloadn (pc := 4) 3 (by decide +kernel : decode cX13_freesIn 4 = .ok (.iload_n 3, 1)) rfl ?_
    refine re_aloadn (pc := 5) 0 (by decide +kernel : decode cX13_freesIn 5 = .ok (.aload_n 0, 1)) rfl ?_
    obtain ⟨u1_, g2_, h⟩ := rv_b_e h
    obtain ⟨x4_, g5_, h⟩ := rv_b_e h
    have m3_ := metX13_coins n S a0 _ g5_
    refine re_cV (pc := 6) [] m3_ (rv_okl.k ⟨rfl, rfl⟩) (rv_up.rf _ _) (by decide) (rv_ck_e g2_) ⟨by decide, rfl⟩ (Nat.le_of_ble_eq_true rfl) lVX13_258 rfl (by decide +kernel : decode cX13_freesIn 6 = .ok (.invokevirtual 258, 3)) ?_
    rcases rv_if_e h with ⟨g6_, h⟩ | ⟨g6_, h⟩
    · refine re_icmp_ge_t (pc := 9) 48 (by decide +kernel : decode cX13_freesIn 9 = .ok (.if_icmp .ge 39, 3)) (by decide) g6_ ?_
      refine re_iloadn (pc := 48) 2 (by decide +kernel : decode cX13_freesIn 48 = .ok (.iload_n 2, 1)) rfl ?_
      cases h
      exact re_iret (fun ty hty => by cases hty; rfl) (by decide +kernel : decode cX13_freesIn 49 = .ok (.ireturn, 1))
    · refine re_icmp_ge_f (pc := 9) 48 (by decide +kernel : decode cX13_freesIn 9 = .ok (.if_icmp .ge 39, 3)) (by decide) g6_ ?_
      refine re_aloadn (pc := 12) 0 (by decide +kernel : decode cX13_freesIn 12 = .ok (.aload_n 0, 1)) rfl ?_
      refine re_iloadn (pc := 13) 3 (by decide +kernel : decode cX13_freesIn 13 = .ok (.iload_n 3, 1)) rfl ?_
      obtain ⟨u7_, g8_, h⟩ := rv_b_e h
      obtain ⟨x10_, S11_, g12_, h⟩ := rv_bp_e h
      have m9_ := metX13_isStuck n S a0 x3 _ _ g12_
      have z13_ : rv_same S S11_ := m9_.sh rfl
      refine re_cV (pc := 14) [.int x3] m9_ (rv_okl.k z13_) (rv_up.sh z13_) (by decide) (rv_ck_e g8_) ⟨by decide, rfl⟩ (Nat.le_of_ble_eq_true rfl) lVX13_360 rfl (by decide +kernel : decode cX13_freesIn 14 = .ok (.invokevirtual 360, 3)) ?_
      rcases rv_if_e h with ⟨g14_, h⟩ | ⟨g14_, h⟩
      · refine re_if_eq_t (pc := 17) 42 (by decide +kernel : decode cX13_freesIn 17 = .ok (.ifCond .eq 25, 3)) (by decide) g14_ ?_
        obtain ⟨x15_, g16_, h⟩ := rv_lt_e h
        refine re_iinc (pc := 42) 3 x15_ (lv1 := [(3, .int x15_), (0, .ref a0), (1, .int x1), (2, .int x2)]) (by decide +kernel : decode cX13_freesIn 42 = .ok (.iinc 3 1, 3)) rfl g16_ (by decide) rfl ?_
        refine re_goto (pc := 45) 4 (by decide +kernel : decode cX13_freesIn 45 = .ok (.goto (-41), 3)) (by decide) ?_
        refine re_sub [1, 2, 3, 0] (lv1 := [(0, .ref a0), (1, .int x1), (2, .int x2), (3, .int x15_)]) rfl ?_
        exact ih S11_ a0 x1 x2 x15_ _ _ h
      · refine re_if_eq_f (pc := 17) 42 (by decide +kernel : decode cX13_freesIn 17 = .ok (.ifCond .eq 25, 3)) (by decide) g14_ ?_
        refine re_aloadn (pc := 20) 0 (by decide +kernel : decode cX13_freesIn 20 = .ok (.aload_n 0, 1)) rfl ?_
        refine re_aloadn (pc := 21) 0 (by decide +kernel : decode cX13_freesIn 21 = .ok (.aload_n 0, 1)) rfl ?_
        refine re_aloadn (pc := 22) 0 (by decide +kernel : decode cX13_freesIn 22 = .ok (.aload_n 0, 1)) rfl ?_
        refine re_iloadn (pc := 23) 3 (by decide +kernel : decode cX13_freesIn 23 = .ok (.iload_n 3, 1)) rfl ?_
        refine re_iconst (pc := 24) (1 : Int32) (by decide +kernel : decode cX13_freesIn 24 = .ok (.iconst 1, 1)) (by decide) ?_
        obtain ⟨u17_, g18_, h⟩ := rv_b_e h
        obtain ⟨x20_, g21_, h⟩ := rv_b_e h
        have m19_ := metX13_ofCoin n S11_ a0 x3 (1 : Int32) _ g21_
        refine re_cV (pc := 25) [.int x3, .int (1 : Int32)] m19_ (rv_okl.k ⟨rfl, rfl⟩) (rv_up.rf _ _) (by decide) (rv_ck_e g18_) ⟨by decide, rfl⟩ (Nat.le_of_ble_eq_true rfl) lVX13_271 rfl (by decide +kernel : decode cX13_freesIn 25 = .ok (.invokevirtual 271, 3)) ?_
        refine re_iconst (pc := 28) (0 : Int32) (by decide +kernel : decode cX13_freesIn 28 = .ok (.iconst 0, 1)) (by decide) ?_
        obtain ⟨u22_, g23_, h⟩ := rv_b_e h
        obtain ⟨x25_, g26_, h⟩ := rv_b_e h
        have m24_ := metX13_ofWho n S11_ a0 x20_ (0 : Int32) _ g26_
        refine re_cV (pc := 29) [.int x20_, .int (0 : Int32)] m24_ (rv_okl.k ⟨rfl, rfl⟩) (rv_up.rf _ _) (by decide) (rv_ck_e g23_) ⟨by decide, rfl⟩ (Nat.le_of_ble_eq_true rfl) lVX13_261 rfl (by decide +kernel : decode cX13_freesIn 29 = .ok (.invokevirtual 261, 3)) ?_
        refine re_iloadn (pc := 32) 1 (by decide +kernel : decode cX13_freesIn 32 = .ok (.iload_n 1, 1)) rfl ?_
        obtain ⟨u27_, g28_, h⟩ := rv_b_e h
        obtain ⟨x30_, g31_, h⟩ := rv_b_e h
        have m29_ := metX13_areNear n S11_ a0 x25_ x1 _ g31_
        refine re_cV (pc := 33) [.int x25_, .int x1] m29_ (rv_okl.k ⟨rfl, rfl⟩) (rv_up.rf _ _) (by decide) (rv_ck_e g28_) ⟨by decide, rfl⟩ (Nat.le_of_ble_eq_true rfl) lVX13_274 rfl (by decide +kernel : decode cX13_freesIn 33 = .ok (.invokevirtual 274, 3)) ?_
        rcases rv_if_e h with ⟨g32_, h⟩ | ⟨g32_, h⟩
        · refine re_if_eq_t (pc := 36) 42 (by decide +kernel : decode cX13_freesIn 36 = .ok (.ifCond .eq 6, 3)) (by decide) g32_ ?_
          obtain ⟨x33_, g34_, h⟩ := rv_lt_e h
          refine re_iinc (pc := 42) 3 x33_ (lv1 := [(3, .int x33_), (0, .ref a0), (1, .int x1), (2, .int x2)]) (by decide +kernel : decode cX13_freesIn 42 = .ok (.iinc 3 1, 3)) rfl g34_ (by decide) rfl ?_
          refine re_goto (pc := 45) 4 (by decide +kernel : decode cX13_freesIn 45 = .ok (.goto (-41), 3)) (by decide) ?_
          refine re_sub [1, 2, 3, 0] (lv1 := [(0, .ref a0), (1, .int x1), (2, .int x2), (3, .int x33_)]) rfl ?_
          exact ih S11_ a0 x1 x2 x33_ _ _ h
        · refine re_if_eq_f (pc := 36) 42 (by decide +kernel : decode cX13_freesIn 36 = .ok (.ifCond .eq 6, 3)) (by decide) g32_ ?_
          obtain ⟨x35_, g36_, h⟩ := rv_lt_e h
          refine re_iinc (pc := 39) 2 x35_ (lv1 := [(2, .int x35_), (0, .ref a0), (1, .int x1), (3, .int x3)]) (by decide +kernel : decode cX13_freesIn 39 = .ok (.iinc 2 1, 3)) rfl g36_ (by decide) rfl ?_
          obtain ⟨x37_, g38_, h⟩ := rv_lt_e h
          refine re_iinc (pc := 42) 3 x37_ (lv1 := [(3, .int x37_), (2, .int x35_), (0, .ref a0), (1, .int x1)]) (by decide +kernel : decode cX13_freesIn 42 = .ok (.iinc 3 1, 3)) rfl g38_ (by decide) rfl ?_
          refine re_goto (pc := 45) 4 (by decide +kernel : decode cX13_freesIn 45 = .ok (.goto (-41), 3)) (by decide) ?_
          refine re_sub [2, 3, 1, 0] (lv1 := [(0, .ref a0), (1, .int x1), (2, .int x35_), (3, .int x37_)]) rfl ?_
          exact ih S11_ a0 x1 x35_ x37_ _ _ h
noncomputable def fnX13_freesIn (n : Nat) (S : rvS) (a0 : Nat) (x1 : Int32) : Option (Int32 × rvS) :=
  cX13_freesIn_4 n n S a0 x1 (0 : Int32) (0 : Int32)
set_option maxRecDepth 20000 in
set_option maxHeartbeats 4000000 in
theorem eX13_freesIn_in (n : Nat) (S : rvS) (a0 : Nat) (x1 : Int32) (r : Int32) (S' : rvS) (h : fnX13_freesIn n S a0 x1 = some (r, S')) : rv_Ev mX13_freesIn 6 0 [(0, .ref a0), (1, .int x1)] [] S (some (.int r)) S' := by
  unfold fnX13_freesIn at h
  refine re_iconst (pc := 0) (0 : Int32) (by decide +kernel : decode cX13_freesIn 0 = .ok (.iconst 0, 1)) (by decide) ?_
  refine re_istoren (pc := 1) (lv1 := [(2, .int (0 : Int32)), (0, .ref a0), (1, .int x1)]) (by decide +kernel : decode cX13_freesIn 1 = .ok (.istore_n 2, 1)) rfl (by decide) rfl ?_
  refine re_iconst (pc := 2) (0 : Int32) (by decide +kernel : decode cX13_freesIn 2 = .ok (.iconst 0, 1)) (by decide) ?_
  refine re_istoren (pc := 3) (lv1 := [(3, .int (0 : Int32)), (2, .int (0 : Int32)), (0, .ref a0), (1, .int x1)]) (by decide +kernel : decode cX13_freesIn 3 = .ok (.istore_n 3, 1)) rfl (by decide) rfl ?_
  refine re_sub [2, 3, 1, 0] (lv1 := [(0, .ref a0), (1, .int x1), (2, .int (0 : Int32)), (3, .int (0 : Int32))]) rfl ?_
  exact eX13_freesIn_4 n n S a0 x1 (0 : Int32) (0 : Int32) _ _ h
theorem metX13_freesIn (n : Nat) (S : rvS) (a0 : Nat) (x1 : Int32) (r : Int32) (S' : rvS) (h : fnX13_freesIn n S a0 x1 = some (r, S')) : rv_Met yX13_freesIn mX13_freesIn 6 [.ref a0, .int x1] S (some (.int r)) S' := rv_Met.of ⟨by decide +kernel, rfl, (fun z => by first | rfl | cases z), rfl⟩ (Nat.le_of_ble_eq_true rfl) rfl (eX13_freesIn_in n S a0 x1 r S' h)
noncomputable def fnX13_frees (n : Nat) (S : rvS) (a0 : Nat) (x1 : Int32) : Option (Int32 × rvS) :=
  (rv_pI S 11 a0 0 (0 : Int32)).bind fun S1_ =>
  (rv_ck S1_ 11 a0).bind fun u3_ =>
  (fnX13_lay n S1_ a0).bind fun S6_ =>
  (fnX13_isVillage n S6_ x1).bind fun x10_ =>
  if x10_ = 0 then (
    some ((-1 : Int32), S6_))
  else (
    (rv_ck S6_ 11 a0).bind fun u13_ =>
    rv_bp (fnX13_freesIn n S6_ a0 x1) fun x16_ S17_ =>
    some (x16_, S17_))
set_option maxRecDepth 20000 in
set_option maxHeartbeats 4000000 in
theorem eX13_frees_in (n : Nat) (S : rvS) (a0 : Nat) (x1 : Int32) (r : Int32) (S' : rvS) (h : fnX13_frees n S a0 x1 = some (r, S')) : rv_Ev mX13_frees 7 0 [(0, .ref a0), (1, .int x1)] [] S (some (.int r)) S' := by
  unfold fnX13_frees at h
  refine re_aloadn (pc := 0) 0 (by decide +kernel : decode cX13_frees 0 = .ok (.aload_n 0, 1)) rfl ?_
  refine re_iconst (pc := 1) (0 : Int32) (by decide +kernel : decode cX13_frees 1 = .ok (.iconst 0, 1)) (by decide) ?_
  obtain ⟨S1_, g2_, h⟩ := rv_b_e h
  refine re_pI (pc := 2) g2_ lfX13_99 rfl rfl rfl rfl (by decide +kernel : decode cX13_frees 2 = .ok (.putfield 99, 3)) ?_
  refine re_aloadn (pc := 5) 0 (by decide +kernel : decode cX13_frees 5 = .ok (.aload_n 0, 1)) rfl ?_
  obtain ⟨u3_, g4_, h⟩ := rv_b_e h
  obtain ⟨S6_, g7_, h⟩ := rv_b_e h
  have m5_ := metX13_lay n S1_ a0 _ g7_
  have z8_ : rv_same S1_ S6_ := m5_.sh rfl
  refine re_cV (pc := 6) [] m5_ (rv_okl.k z8_) (rv_up.sh z8_) (by decide) (rv_ck_e g4_) ⟨by decide, rfl⟩ (Nat.le_of_ble_eq_true rfl) lVX13_187 rfl (by decide +kernel : decode cX13_frees 6 = .ok (.invokevirtual 187, 3)) ?_
  refine re_iloadn (pc := 9) 1 (by decide +kernel : decode cX13_frees 9 = .ok (.iload_n 1, 1)) rfl ?_
  obtain ⟨x10_, g11_, h⟩ := rv_b_e h
  have m9_ := metX13_isVillage n S6_ x1 _ g11_
  refine re_cS (pc := 10) [.int x1] m9_ (rv_okl.k ⟨rfl, rfl⟩) (rv_up.rf _ _) (by decide) (Nat.le_of_ble_eq_true rfl) lSX13_289 rfl (by decide +kernel : decode cX13_frees 10 = .ok (.invokestatic 289, 3)) ?_
  rcases rv_if_e h with ⟨g12_, h⟩ | ⟨g12_, h⟩
  · refine re_if_eq_t (pc := 13) 24 (by decide +kernel : decode cX13_frees 13 = .ok (.ifCond .eq 11, 3)) (by decide) g12_ ?_
    refine re_iconst (pc := 24) (-1 : Int32) (by decide +kernel : decode cX13_frees 24 = .ok (.iconst (-1), 1)) (by decide) ?_
    cases h
    exact re_iret (fun ty hty => by cases hty; rfl) (by decide +kernel : decode cX13_frees 25 = .ok (.ireturn, 1))
  · refine re_if_eq_f (pc := 13) 24 (by decide +kernel : decode cX13_frees 13 = .ok (.ifCond .eq 11, 3)) (by decide) g12_ ?_
    refine re_aloadn (pc := 16) 0 (by decide +kernel : decode cX13_frees 16 = .ok (.aload_n 0, 1)) rfl ?_
    refine re_iloadn (pc := 17) 1 (by decide +kernel : decode cX13_frees 17 = .ok (.iload_n 1, 1)) rfl ?_
    obtain ⟨u13_, g14_, h⟩ := rv_b_e h
    obtain ⟨x16_, S17_, g18_, h⟩ := rv_bp_e h
    have m15_ := metX13_freesIn n S6_ a0 x1 _ _ g18_
    have z19_ : rv_same S6_ S17_ := m15_.sh rfl
    refine re_cV (pc := 18) [.int x1] m15_ (rv_okl.k z19_) (rv_up.sh z19_) (by decide) (rv_ck_e g14_) ⟨by decide, rfl⟩ (Nat.le_of_ble_eq_true rfl) lVX13_363 rfl (by decide +kernel : decode cX13_frees 18 = .ok (.invokevirtual 363, 3)) ?_
    refine re_goto (pc := 21) 25 (by decide +kernel : decode cX13_frees 21 = .ok (.goto 4, 3)) (by decide) ?_
    cases h
    exact re_iret (fun ty hty => by cases hty; rfl) (by decide +kernel : decode cX13_frees 25 = .ok (.ireturn, 1))
theorem metX13_frees (n : Nat) (S : rvS) (a0 : Nat) (x1 : Int32) (r : Int32) (S' : rvS) (h : fnX13_frees n S a0 x1 = some (r, S')) : rv_Met yX13_frees mX13_frees 7 [.ref a0, .int x1] S (some (.int r)) S' := rv_Met.of ⟨by decide +kernel, rfl, (fun z => by first | rfl | cases z), rfl⟩ (Nat.le_of_ble_eq_true rfl) rfl (eX13_frees_in n S a0 x1 r S' h)
noncomputable def cX13_cradle_13 (n : Nat) : Nat → rvS → Nat → Int32 → Int32 → Option (Int32 × rvS)
  | 0, _, _, _, _ => none
  | k + 1, S, a0, x1, x2 =>
    if (4 : Int32) ≤ x2 then (
      some (x1, S))
    else (
      (rv_ck S 11 a0).bind fun u2_ =>
      rv_bp (fnX13_freesIn n S a0 x2) fun x5_ S6_ =>
      (rv_ck S6_ 11 a0).bind fun u9_ =>
      rv_bp (fnX13_freesIn n S6_ a0 x1) fun x12_ S13_ =>
      if x5_ ≤ x12_ then (
        rv_lt (x2 + (1)) fun x17_ =>
        cX13_cradle_13 n k S13_ a0 x1 x17_)
      else (
        rv_lt (x2 + (1)) fun x19_ =>
        cX13_cradle_13 n k S13_ a0 x2 x19_))
set_option maxRecDepth 20000 in
set_option maxHeartbeats 4000000 in
theorem eX13_cradle_13 (n : Nat) : ∀ (k : Nat) (S : rvS) (a0 : Nat) (x1 : Int32) (x2 : Int32) (r : Int32) (S' : rvS), cX13_cradle_13 n k S a0 x1 x2 = some (r, S') → rv_Ev mX13_cradle 7 13 [(0, .ref a0), (1, .int x1), (2, .int x2)] [] S (some (.int r)) S' := by
  intro k
  induction k with
  | zero => intro S a0 x1 x2 r S' h; exact absurd h (by simp [cX13_cradle_13])
  | succ k ih =>
    intro S a0 x1 x2 r S' h
    unfold cX13_cradle_13 at h
    refine re_iloadn (pc := 13) 2 (by decide +kernel : decode cX13_cradle 13 = .ok (.iload_n 2, 1)) rfl ?_
    refine re_iconst (pc := 14) (4 : Int32) (by decide +kernel : decode cX13_cradle 14 = .ok (.iconst 4, 1)) (by decide) ?_
    rcases rv_if_e h with ⟨g1_, h⟩ | ⟨g1_, h⟩
    · refine re_icmp_ge_t (pc := 15) 39 (by decide +kernel : decode cX13_cradle 15 = .ok (.if_icmp .ge 24, 3)) (by decide) g1_ ?_
      refine re_iloadn (pc := 39) 1 (by decide +kernel : decode cX13_cradle 39 = .ok (.iload_n 1, 1)) rfl ?_
      cases h
      exact re_iret (fun ty hty => by cases hty; rfl) (by decide +kernel : decode cX13_cradle 40 = .ok (.ireturn, 1))
    · refine re_icmp_ge_f (pc := 15) 39 (by decide +kernel : decode cX13_cradle 15 = .ok (.if_icmp .ge 24, 3)) (by decide) g1_ ?_
      refine re_aloadn (pc := 18) 0 (by decide +kernel : decode cX13_cradle 18 = .ok (.aload_n 0, 1)) rfl ?_
      refine re_iloadn (pc := 19) 2 (by decide +kernel : decode cX13_cradle 19 = .ok (.iload_n 2, 1)) rfl ?_
      obtain ⟨u2_, g3_, h⟩ := rv_b_e h
      obtain ⟨x5_, S6_, g7_, h⟩ := rv_bp_e h
      have m4_ := metX13_freesIn n S a0 x2 _ _ g7_
      have z8_ : rv_same S S6_ := m4_.sh rfl
      refine re_cV (pc := 20) [.int x2] m4_ (rv_okl.k z8_) (rv_up.sh z8_) (by decide) (rv_ck_e g3_) ⟨by decide, rfl⟩ (Nat.le_of_ble_eq_true rfl) lVX13_363 rfl (by decide +kernel : decode cX13_cradle 20 = .ok (.invokevirtual 363, 3)) ?_
      refine re_aloadn (pc := 23) 0 (by decide +kernel : decode cX13_cradle 23 = .ok (.aload_n 0, 1)) rfl ?_
      refine re_iloadn (pc := 24) 1 (by decide +kernel : decode cX13_cradle 24 = .ok (.iload_n 1, 1)) rfl ?_
      obtain ⟨u9_, g10_, h⟩ := rv_b_e h
      obtain ⟨x12_, S13_, g14_, h⟩ := rv_bp_e h
      have m11_ := metX13_freesIn n S6_ a0 x1 _ _ g14_
      have z15_ : rv_same S6_ S13_ := m11_.sh rfl
      refine re_cV (pc := 25) [.int x1] m11_ (rv_okl.k z15_) (rv_up.sh z15_) (by decide) (rv_ck_e g10_) ⟨by decide, rfl⟩ (Nat.le_of_ble_eq_true rfl) lVX13_363 rfl (by decide +kernel : decode cX13_cradle 25 = .ok (.invokevirtual 363, 3)) ?_
      rcases rv_if_e h with ⟨g16_, h⟩ | ⟨g16_, h⟩
      · refine re_icmp_le_t (pc := 28) 33 (by decide +kernel : decode cX13_cradle 28 = .ok (.if_icmp .le 5, 3)) (by decide) g16_ ?_
        obtain ⟨x17_, g18_, h⟩ := rv_lt_e h
        refine re_iinc (pc := 33) 2 x17_ (lv1 := [(2, .int x17_), (0, .ref a0), (1, .int x1)]) (by decide +kernel : decode cX13_cradle 33 = .ok (.iinc 2 1, 3)) rfl g18_ (by decide) rfl ?_
        refine re_goto (pc := 36) 13 (by decide +kernel : decode cX13_cradle 36 = .ok (.goto (-23), 3)) (by decide) ?_
        refine re_sub [1, 2, 0] (lv1 := [(0, .ref a0), (1, .int x1), (2, .int x17_)]) rfl ?_
        exact ih S13_ a0 x1 x17_ _ _ h
      · refine re_icmp_le_f (pc := 28) 33 (by decide +kernel : decode cX13_cradle 28 = .ok (.if_icmp .le 5, 3)) (by decide) g16_ ?_
        refine re_iloadn (pc := 31) 2 (by decide +kernel : decode cX13_cradle 31 = .ok (.iload_n 2, 1)) rfl ?_
        refine re_istoren (pc := 32) (lv1 := [(1, .int x2), (0, .ref a0), (2, .int x2)]) (by decide +kernel : decode cX13_cradle 32 = .ok (.istore_n 1, 1)) rfl (by decide) rfl ?_
        obtain ⟨x19_, g20_, h⟩ := rv_lt_e h
        refine re_iinc (pc := 33) 2 x19_ (lv1 := [(2, .int x19_), (1, .int x2), (0, .ref a0)]) (by decide +kernel : decode cX13_cradle 33 = .ok (.iinc 2 1, 3)) rfl g20_ (by decide) rfl ?_
        refine re_goto (pc := 36) 13 (by decide +kernel : decode cX13_cradle 36 = .ok (.goto (-23), 3)) (by decide) ?_
        refine re_sub [2, 1, 0] (lv1 := [(0, .ref a0), (1, .int x2), (2, .int x19_)]) rfl ?_
        exact ih S13_ a0 x2 x19_ _ _ h
noncomputable def fnX13_cradle (n : Nat) (S : rvS) (a0 : Nat) : Option (Int32 × rvS) :=
  (rv_pI S 11 a0 0 (0 : Int32)).bind fun S1_ =>
  (rv_ck S1_ 11 a0).bind fun u3_ =>
  (fnX13_lay n S1_ a0).bind fun S6_ =>
  cX13_cradle_13 n n S6_ a0 (0 : Int32) (1 : Int32)
set_option maxRecDepth 20000 in
set_option maxHeartbeats 4000000 in
theorem eX13_cradle_in (n : Nat) (S : rvS) (a0 : Nat) (r : Int32) (S' : rvS) (h : fnX13_cradle n S a0 = some (r, S')) : rv_Ev mX13_cradle 7 0 [(0, .ref a0)] [] S (some (.int r)) S' := by
  unfold fnX13_cradle at h
  refine re_aloadn (pc := 0) 0 (by decide +kernel : decode cX13_cradle 0 = .ok (.aload_n 0, 1)) rfl ?_
  refine re_iconst (pc := 1) (0 : Int32) (by decide +kernel : decode cX13_cradle 1 = .ok (.iconst 0, 1)) (by decide) ?_
  obtain ⟨S1_, g2_, h⟩ := rv_b_e h
  refine re_pI (pc := 2) g2_ lfX13_99 rfl rfl rfl rfl (by decide +kernel : decode cX13_cradle 2 = .ok (.putfield 99, 3)) ?_
  refine re_aloadn (pc := 5) 0 (by decide +kernel : decode cX13_cradle 5 = .ok (.aload_n 0, 1)) rfl ?_
  obtain ⟨u3_, g4_, h⟩ := rv_b_e h
  obtain ⟨S6_, g7_, h⟩ := rv_b_e h
  have m5_ := metX13_lay n S1_ a0 _ g7_
  have z8_ : rv_same S1_ S6_ := m5_.sh rfl
  refine re_cV (pc := 6) [] m5_ (rv_okl.k z8_) (rv_up.sh z8_) (by decide) (rv_ck_e g4_) ⟨by decide, rfl⟩ (Nat.le_of_ble_eq_true rfl) lVX13_187 rfl (by decide +kernel : decode cX13_cradle 6 = .ok (.invokevirtual 187, 3)) ?_
  refine re_iconst (pc := 9) (0 : Int32) (by decide +kernel : decode cX13_cradle 9 = .ok (.iconst 0, 1)) (by decide) ?_
  refine re_istoren (pc := 10) (lv1 := [(1, .int (0 : Int32)), (0, .ref a0)]) (by decide +kernel : decode cX13_cradle 10 = .ok (.istore_n 1, 1)) rfl (by decide) rfl ?_
  refine re_iconst (pc := 11) (1 : Int32) (by decide +kernel : decode cX13_cradle 11 = .ok (.iconst 1, 1)) (by decide) ?_
  refine re_istoren (pc := 12) (lv1 := [(2, .int (1 : Int32)), (1, .int (0 : Int32)), (0, .ref a0)]) (by decide +kernel : decode cX13_cradle 12 = .ok (.istore_n 2, 1)) rfl (by decide) rfl ?_
  refine re_sub [2, 1, 0] (lv1 := [(0, .ref a0), (1, .int (0 : Int32)), (2, .int (1 : Int32))]) rfl ?_
  exact eX13_cradle_13 n n S6_ a0 (0 : Int32) (1 : Int32) _ _ h
theorem metX13_cradle (n : Nat) (S : rvS) (a0 : Nat) (r : Int32) (S' : rvS) (h : fnX13_cradle n S a0 = some (r, S')) : rv_Met yX13_cradle mX13_cradle 7 [.ref a0] S (some (.int r)) S' := rv_Met.of ⟨by decide +kernel, rfl, (fun z => by first | rfl | cases z), rfl⟩ (Nat.le_of_ble_eq_true rfl) rfl (eX13_cradle_in n S a0 r S' h)
noncomputable def cX13_opens_163 (n : Nat) (K15 : Nat → Int32 → Int32 → Int32 → rvS → Option (Int32 × rvS)) (K25 : Nat → Int32 → Int32 → Int32 → Int32 → rvS → Option (Int32 × rvS)) (S : rvS) (a0 : Nat) (x3 : Int32) (x4 : Int32) (x5 : Int32) : Option (Int32 × rvS) :=
  rv_lt (((10 : Int32) * x3) + x4) fun x1_ =>
  rv_lt (x4 + (1)) fun x3_ =>
  K25 a0 x1_ x5 x3 x3_ S
set_option maxRecDepth 20000 in
set_option maxHeartbeats 4000000 in
theorem eX13_opens_163 (n : Nat) (K15 : Nat → Int32 → Int32 → Int32 → rvS → Option (Int32 × rvS)) (K25 : Nat → Int32 → Int32 → Int32 → Int32 → rvS → Option (Int32 × rvS)) (hK15 : ∀ (a0 : Nat) (x1 : Int32) (x2 : Int32) (x3 : Int32) (S : rvS) (r : Int32) (S' : rvS), K15 a0 x1 x2 x3 S = some (r, S') → rv_Ev mX13_opens 6 15 [(0, .ref a0), (1, .int x1), (2, .int x2), (3, .int x3)] [] S (some (.int r)) S') (hK25 : ∀ (a0 : Nat) (x1 : Int32) (x2 : Int32) (x3 : Int32) (x4 : Int32) (S : rvS) (r : Int32) (S' : rvS), K25 a0 x1 x2 x3 x4 S = some (r, S') → rv_Ev mX13_opens 6 25 [(0, .ref a0), (1, .int x1), (2, .int x2), (3, .int x3), (4, .int x4)] [] S (some (.int r)) S') (S : rvS) (a0 : Nat) (x3 : Int32) (x4 : Int32) (x5 : Int32) (r : Int32) (S' : rvS) (h : cX13_opens_163 n K15 K25 S a0 x3 x4 x5 = some (r, S')) : rv_Ev mX13_opens 6 163 [(0, .ref a0), (3, .int x3), (4, .int x4), (5, .int x5)] [] S (some (.int r)) S' := by
  unfold cX13_opens_163 at h
  refine re_bipush (pc := 163) (10 : Int32) (by decide +kernel : decode cX13_opens 163 = .ok (.bipush 10, 2)) (by decide) ?_
  refine re_iloadn (pc := 165) 1 (by decide +kernel : decode cX13_opens 165 = .ok (.iload_n 3, 1)) rfl ?_
  refine re_imul (pc := 166) (by decide +kernel : decode cX13_opens 166 = .ok (.imul, 1)) ?_
  refine re_iload (pc := 167) 2 (by decide +kernel : decode cX13_opens 167 = .ok (.iload 4, 2)) rfl ?_
  refine re_iadd (pc := 169) (by decide +kernel : decode cX13_opens 169 = .ok (.iadd, 1)) ?_
  obtain ⟨x1_, g2_, h⟩ := rv_lt_e h
  refine re_nI (pc := 170) g2_ ?_
  refine re_istoren (pc := 170) (lv1 := [(1, .int x1_), (0, .ref a0), (3, .int x3), (4, .int x4), (5, .int x5)]) (by decide +kernel : decode cX13_opens 170 = .ok (.istore_n 1, 1)) rfl (by decide) rfl ?_
  refine re_iload (pc := 171) 4 (by decide +kernel : decode cX13_opens 171 = .ok (.iload 5, 2)) rfl ?_
  refine re_istoren (pc := 173) (lv1 := [(2, .int x5), (1, .int x1_), (0, .ref a0), (3, .int x3), (4, .int x4), (5, .int x5)]) (by decide +kernel : decode cX13_opens 173 = .ok (.istore_n 2, 1)) rfl (by decide) rfl ?_
  obtain ⟨x3_, g4_, h⟩ := rv_lt_e h
  refine re_iinc (pc := 174) 4 x3_ (lv1 := [(4, .int x3_), (2, .int x5), (1, .int x1_), (0, .ref a0), (3, .int x3), (5, .int x5)]) (by decide +kernel : decode cX13_opens 174 = .ok (.iinc 4 1, 3)) rfl g4_ (by decide) rfl ?_
  refine re_goto (pc := 177) 25 (by decide +kernel : decode cX13_opens 177 = .ok (.goto (-152), 3)) (by decide) ?_
  refine re_sub [3, 2, 1, 4, 0] (lv1 := [(0, .ref a0), (1, .int x1_), (2, .int x5), (3, .int x3), (4, .int x3_)]) rfl ?_
  exact hK25 a0 x1_ x5 x3 x3_ S _ _ h
noncomputable def cX13_opens_111 (n : Nat) (K15 : Nat → Int32 → Int32 → Int32 → rvS → Option (Int32 × rvS)) (K25 : Nat → Int32 → Int32 → Int32 → Int32 → rvS → Option (Int32 × rvS)) (S : rvS) (a0 : Nat) (x1 : Int32) (x2 : Int32) (x3 : Int32) (x4 : Int32) (x5 : Int32) : Option (Int32 × rvS) :=
  (rv_gR S 11 a0 14).bind fun a1_ =>
  rv_lt ((128 : Int32) + x3) fun x3_ =>
  (rv_aI S 0 a1_ x3_).bind fun x5_ =>
  (rv_uI S a1_ x3_ (x5_ &&& (((1 : Int32) <<< (x4 &&& 31)) ^^^ (-1 : Int32)))).bind fun S7_ =>
  (rv_gR S7_ 11 a0 14).bind fun a9_ =>
  rv_lt ((128 : Int32) + x4) fun x11_ =>
  (rv_aI S7_ 0 a9_ x11_).bind fun x13_ =>
  (rv_uI S7_ a9_ x11_ (x13_ &&& (((1 : Int32) <<< (x3 &&& 31)) ^^^ (-1 : Int32)))).bind fun S15_ =>
  if x1 = (-1 : Int32) then (
    cX13_opens_163 n K15 K25 S15_ a0 x3 x4 x5)
  else (
    if x5 < x2 then (
      cX13_opens_163 n K15 K25 S15_ a0 x3 x4 x5)
    else (
      rv_lt (x4 + (1)) fun x19_ =>
      K25 a0 x1 x2 x3 x19_ S15_))
set_option maxRecDepth 20000 in
set_option maxHeartbeats 4000000 in
theorem eX13_opens_111 (n : Nat) (K15 : Nat → Int32 → Int32 → Int32 → rvS → Option (Int32 × rvS)) (K25 : Nat → Int32 → Int32 → Int32 → Int32 → rvS → Option (Int32 × rvS)) (hK15 : ∀ (a0 : Nat) (x1 : Int32) (x2 : Int32) (x3 : Int32) (S : rvS) (r : Int32) (S' : rvS), K15 a0 x1 x2 x3 S = some (r, S') → rv_Ev mX13_opens 6 15 [(0, .ref a0), (1, .int x1), (2, .int x2), (3, .int x3)] [] S (some (.int r)) S') (hK25 : ∀ (a0 : Nat) (x1 : Int32) (x2 : Int32) (x3 : Int32) (x4 : Int32) (S : rvS) (r : Int32) (S' : rvS), K25 a0 x1 x2 x3 x4 S = some (r, S') → rv_Ev mX13_opens 6 25 [(0, .ref a0), (1, .int x1), (2, .int x2), (3, .int x3), (4, .int x4)] [] S (some (.int r)) S') (S : rvS) (a0 : Nat) (x1 : Int32) (x2 : Int32) (x3 : Int32) (x4 : Int32) (x5 : Int32) (r : Int32) (S' : rvS) (h : cX13_opens_111 n K15 K25 S a0 x1 x2 x3 x4 x5 = some (r, S')) : rv_Ev mX13_opens 6 111 [(0, .ref a0), (1, .int x1), (2, .int x2), (3, .int x3), (4, .int x4), (5, .int x5)] [] S (some (.int r)) S' := by
  unfold cX13_opens_111 at h
  refine re_aloadn (pc := 111) 0 (by decide +kernel : decode cX13_opens 111 = .ok (.aload_n 0, 1)) rfl ?_
  obtain ⟨a1_, g2_, h⟩ := rv_b_e h
  refine re_gR (pc := 112) g2_ lfX13_13 rfl (by decide +kernel : decode cX13_opens 112 = .ok (.getfield 13, 3)) ?_
  refine re_sipush (pc := 115) (128 : Int32) (by decide +kernel : decode cX13_opens 115 = .ok (.sipush 128, 3)) (by decide) ?_
  refine re_iloadn (pc := 118) 3 (by decide +kernel : decode cX13_opens 118 = .ok (.iload_n 3, 1)) rfl ?_
  refine re_iadd (pc := 119) (by decide +kernel : decode cX13_opens 119 = .ok (.iadd, 1)) ?_
  obtain ⟨x3_, g4_, h⟩ := rv_lt_e h
  refine re_nI (pc := 120) g4_ ?_
  refine re_dup2 (pc := 120) (by decide +kernel : decode cX13_opens 120 = .ok (.dup2, 1)) rfl rfl ?_
  obtain ⟨x5_, g6_, h⟩ := rv_b_e h
  refine re_aI (pc := 121) g6_ (by decide +kernel : decode cX13_opens 121 = .ok (.iaload, 1)) ?_
  refine re_iconst (pc := 122) (1 : Int32) (by decide +kernel : decode cX13_opens 122 = .ok (.iconst 1, 1)) (by decide) ?_
  refine re_iload (pc := 123) 4 (by decide +kernel : decode cX13_opens 123 = .ok (.iload 4, 2)) rfl ?_
  refine re_ishl (pc := 125) (by decide +kernel : decode cX13_opens 125 = .ok (.ishl, 1)) ?_
  refine re_iconst (pc := 126) (-1 : Int32) (by decide +kernel : decode cX13_opens 126 = .ok (.iconst (-1), 1)) (by decide) ?_
  refine re_ixor (pc := 127) (by decide +kernel : decode cX13_opens 127 = .ok (.ixor, 1)) ?_
  refine re_iand (pc := 128) (by decide +kernel : decode cX13_opens 128 = .ok (.iand, 1)) ?_
  obtain ⟨S7_, g8_, h⟩ := rv_b_e h
  refine re_uI (pc := 129) g8_ (by decide +kernel : decode cX13_opens 129 = .ok (.iastore, 1)) ?_
  refine re_aloadn (pc := 130) 0 (by decide +kernel : decode cX13_opens 130 = .ok (.aload_n 0, 1)) rfl ?_
  obtain ⟨a9_, g10_, h⟩ := rv_b_e h
  refine re_gR (pc := 131) g10_ lfX13_13 rfl (by decide +kernel : decode cX13_opens 131 = .ok (.getfield 13, 3)) ?_
  refine re_sipush (pc := 134) (128 : Int32) (by decide +kernel : decode cX13_opens 134 = .ok (.sipush 128, 3)) (by decide) ?_
  refine re_iload (pc := 137) 4 (by decide +kernel : decode cX13_opens 137 = .ok (.iload 4, 2)) rfl ?_
  refine re_iadd (pc := 139) (by decide +kernel : decode cX13_opens 139 = .ok (.iadd, 1)) ?_
  obtain ⟨x11_, g12_, h⟩ := rv_lt_e h
  refine re_nI (pc := 140) g12_ ?_
  refine re_dup2 (pc := 140) (by decide +kernel : decode cX13_opens 140 = .ok (.dup2, 1)) rfl rfl ?_
  obtain ⟨x13_, g14_, h⟩ := rv_b_e h
  refine re_aI (pc := 141) g14_ (by decide +kernel : decode cX13_opens 141 = .ok (.iaload, 1)) ?_
  refine re_iconst (pc := 142) (1 : Int32) (by decide +kernel : decode cX13_opens 142 = .ok (.iconst 1, 1)) (by decide) ?_
  refine re_iloadn (pc := 143) 3 (by decide +kernel : decode cX13_opens 143 = .ok (.iload_n 3, 1)) rfl ?_
  refine re_ishl (pc := 144) (by decide +kernel : decode cX13_opens 144 = .ok (.ishl, 1)) ?_
  refine re_iconst (pc := 145) (-1 : Int32) (by decide +kernel : decode cX13_opens 145 = .ok (.iconst (-1), 1)) (by decide) ?_
  refine re_ixor (pc := 146) (by decide +kernel : decode cX13_opens 146 = .ok (.ixor, 1)) ?_
  refine re_iand (pc := 147) (by decide +kernel : decode cX13_opens 147 = .ok (.iand, 1)) ?_
  obtain ⟨S15_, g16_, h⟩ := rv_b_e h
  refine re_uI (pc := 148) g16_ (by decide +kernel : decode cX13_opens 148 = .ok (.iastore, 1)) ?_
  refine re_iloadn (pc := 149) 1 (by decide +kernel : decode cX13_opens 149 = .ok (.iload_n 1, 1)) rfl ?_
  refine re_iconst (pc := 150) (-1 : Int32) (by decide +kernel : decode cX13_opens 150 = .ok (.iconst (-1), 1)) (by decide) ?_
  rcases rv_if_e h with ⟨g17_, h⟩ | ⟨g17_, h⟩
  · refine re_icmp_eq_t (pc := 151) 163 (by decide +kernel : decode cX13_opens 151 = .ok (.if_icmp .eq 12, 3)) (by decide) g17_ ?_
    refine re_sub [0, 3, 4, 5] (lv1 := [(0, .ref a0), (3, .int x3), (4, .int x4), (5, .int x5)]) rfl ?_
    exact eX13_opens_163 n K15 K25 hK15 hK25 S15_ a0 x3 x4 x5 _ _ h
  · refine re_icmp_eq_f (pc := 151) 163 (by decide +kernel : decode cX13_opens 151 = .ok (.if_icmp .eq 12, 3)) (by decide) g17_ ?_
    refine re_iload (pc := 154) 5 (by decide +kernel : decode cX13_opens 154 = .ok (.iload 5, 2)) rfl ?_
    refine re_iloadn (pc := 156) 2 (by decide +kernel : decode cX13_opens 156 = .ok (.iload_n 2, 1)) rfl ?_
    rcases rv_if_e h with ⟨g18_, h⟩ | ⟨g18_, h⟩
    · refine re_icmp_lt_t (pc := 157) 163 (by decide +kernel : decode cX13_opens 157 = .ok (.if_icmp .lt 6, 3)) (by decide) g18_ ?_
      refine re_sub [0, 3, 4, 5] (lv1 := [(0, .ref a0), (3, .int x3), (4, .int x4), (5, .int x5)]) rfl ?_
      exact eX13_opens_163 n K15 K25 hK15 hK25 S15_ a0 x3 x4 x5 _ _ h
    · refine re_icmp_lt_f (pc := 157) 163 (by decide +kernel : decode cX13_opens 157 = .ok (.if_icmp .lt 6, 3)) (by decide) g18_ ?_
      refine re_goto (pc := 160) 174 (by decide +kernel : decode cX13_opens 160 = .ok (.goto 14, 3)) (by decide) ?_
      obtain ⟨x19_, g20_, h⟩ := rv_lt_e h
      refine re_iinc (pc := 174) 4 x19_ (lv1 := [(4, .int x19_), (0, .ref a0), (1, .int x1), (2, .int x2), (3, .int x3), (5, .int x5)]) (by decide +kernel : decode cX13_opens 174 = .ok (.iinc 4 1, 3)) rfl g20_ (by decide) rfl ?_
      refine re_goto (pc := 177) 25 (by decide +kernel : decode cX13_opens 177 = .ok (.goto (-152), 3)) (by decide) ?_
      refine re_sub [1, 2, 3, 4, 0] (lv1 := [(0, .ref a0), (1, .int x1), (2, .int x2), (3, .int x3), (4, .int x19_)]) rfl ?_
      exact hK25 a0 x1 x2 x3 x19_ S15_ _ _ h
noncomputable def cX13_opens_84 (n : Nat) (K15 : Nat → Int32 → Int32 → Int32 → rvS → Option (Int32 × rvS)) (K25 : Nat → Int32 → Int32 → Int32 → Int32 → rvS → Option (Int32 × rvS)) : Nat → rvS → Nat → Int32 → Int32 → Int32 → Int32 → Int32 → Int32 → Option (Int32 × rvS)
  | 0, _, _, _, _, _, _, _, _ => none
  | k + 1, S, a0, x1, x2, x3, x4, x5, x6 =>
    (rv_ck S 11 a0).bind fun u1_ =>
    (fnX13_coins n S a0).bind fun x4_ =>
    if x4_ ≤ x6 then (
      cX13_opens_111 n K15 K25 S a0 x1 x2 x3 x4 x5)
    else (
      (rv_ck S 11 a0).bind fun u7_ =>
      rv_bp (fnX13_isStuck n S a0 x6) fun x10_ S11_ =>
      if x10_ = 0 then (
        rv_lt (x6 + (1)) fun x15_ =>
        cX13_opens_84 n K15 K25 k S11_ a0 x1 x2 x3 x4 x5 x15_)
      else (
        rv_lt (x5 + (1)) fun x17_ =>
        rv_lt (x6 + (1)) fun x19_ =>
        cX13_opens_84 n K15 K25 k S11_ a0 x1 x2 x3 x4 x17_ x19_))
set_option maxRecDepth 20000 in
set_option maxHeartbeats 4000000 in
theorem eX13_opens_84 (n : Nat) (K15 : Nat → Int32 → Int32 → Int32 → rvS → Option (Int32 × rvS)) (K25 : Nat → Int32 → Int32 → Int32 → Int32 → rvS → Option (Int32 × rvS)) (hK15 : ∀ (a0 : Nat) (x1 : Int32) (x2 : Int32) (x3 : Int32) (S : rvS) (r : Int32) (S' : rvS), K15 a0 x1 x2 x3 S = some (r, S') → rv_Ev mX13_opens 6 15 [(0, .ref a0), (1, .int x1), (2, .int x2), (3, .int x3)] [] S (some (.int r)) S') (hK25 : ∀ (a0 : Nat) (x1 : Int32) (x2 : Int32) (x3 : Int32) (x4 : Int32) (S : rvS) (r : Int32) (S' : rvS), K25 a0 x1 x2 x3 x4 S = some (r, S') → rv_Ev mX13_opens 6 25 [(0, .ref a0), (1, .int x1), (2, .int x2), (3, .int x3), (4, .int x4)] [] S (some (.int r)) S') : ∀ (k : Nat) (S : rvS) (a0 : Nat) (x1 : Int32) (x2 : Int32) (x3 : Int32) (x4 : Int32) (x5 : Int32) (x6 : Int32) (r : Int32) (S' : rvS), cX13_opens_84 n K15 K25 k S a0 x1 x2 x3 x4 x5 x6 = some (r, S') → rv_Ev mX13_opens 6 84 [(0, .ref a0), (1, .int x1), (2, .int x2), (3, .int x3), (4, .int x4), (5, .int x5), (6, .int x6)] [] S (some (.int r)) S' := by
  intro k
  induction k with
  | zero => intro S a0 x1 x2 x3 x4 x5 x6 r S' h; exact absurd h (by simp [cX13_opens_84])
  | succ k ih =>
    intro S a0 x1 x2 x3 x4 x5 x6 r S' h
    unfold cX13_opens_84 at h
    refine re_iload (pc := 84) 6 (by decide +kernel : decode cX13_opens 84 = .ok (.iload 6, 2)) rfl ?_
    refine re_aloadn (pc := 86) 0 (by decide +kernel : decode cX13_opens 86 = .ok (.aload_n 0, 1)) rfl ?_
    obtain ⟨u1_, g2_, h⟩ := rv_b_e h
    obtain ⟨x4_, g5_, h⟩ := rv_b_e h
    have m3_ := metX13_coins n S a0 _ g5_
    refine re_cV (pc := 87) [] m3_ (rv_okl.k ⟨rfl, rfl⟩) (rv_up.rf _ _) (by decide) (rv_ck_e g2_) ⟨by decide, rfl⟩ (Nat.le_of_ble_eq_true rfl) lVX13_258 rfl (by decide +kernel : decode cX13_opens 87 = .ok (.invokevirtual 258, 3)) ?_
    rcases rv_if_e h with ⟨g6_, h⟩ | ⟨g6_, h⟩
    · refine re_icmp_ge_t (pc := 90) 111 (by decide +kernel : decode cX13_opens 90 = .ok (.if_icmp .ge 21, 3)) (by decide) g6_ ?_
      refine re_sub [0, 1, 2, 3, 4, 5] (lv1 := [(0, .ref a0), (1, .int x1), (2, .int x2), (3, .int x3), (4, .int x4), (5, .int x5)]) rfl ?_
      exact eX13_opens_111 n K15 K25 hK15 hK25 S a0 x1 x2 x3 x4 x5 _ _ h
    · refine re_icmp_ge_f (pc := 90) 111 (by decide +kernel : decode cX13_opens 90 = .ok (.if_icmp .ge 21, 3)) (by decide) g6_ ?_
      refine re_aloadn (pc := 93) 0 (by decide +kernel : decode cX13_opens 93 = .ok (.aload_n 0, 1)) rfl ?_
      refine re_iload (pc := 94) 6 (by decide +kernel : decode cX13_opens 94 = .ok (.iload 6, 2)) rfl ?_
      obtain ⟨u7_, g8_, h⟩ := rv_b_e h
      obtain ⟨x10_, S11_, g12_, h⟩ := rv_bp_e h
      have m9_ := metX13_isStuck n S a0 x6 _ _ g12_
      have z13_ : rv_same S S11_ := m9_.sh rfl
      refine re_cV (pc := 96) [.int x6] m9_ (rv_okl.k z13_) (rv_up.sh z13_) (by decide) (rv_ck_e g8_) ⟨by decide, rfl⟩ (Nat.le_of_ble_eq_true rfl) lVX13_360 rfl (by decide +kernel : decode cX13_opens 96 = .ok (.invokevirtual 360, 3)) ?_
      rcases rv_if_e h with ⟨g14_, h⟩ | ⟨g14_, h⟩
      · refine re_if_eq_t (pc := 99) 105 (by decide +kernel : decode cX13_opens 99 = .ok (.ifCond .eq 6, 3)) (by decide) g14_ ?_
        obtain ⟨x15_, g16_, h⟩ := rv_lt_e h
        refine re_iinc (pc := 105) 6 x15_ (lv1 := [(6, .int x15_), (0, .ref a0), (1, .int x1), (2, .int x2), (3, .int x3), (4, .int x4), (5, .int x5)]) (by decide +kernel : decode cX13_opens 105 = .ok (.iinc 6 1, 3)) rfl g16_ (by decide) rfl ?_
        refine re_goto (pc := 108) 84 (by decide +kernel : decode cX13_opens 108 = .ok (.goto (-24), 3)) (by decide) ?_
        refine re_sub [1, 2, 3, 4, 5, 6, 0] (lv1 := [(0, .ref a0), (1, .int x1), (2, .int x2), (3, .int x3), (4, .int x4), (5, .int x5), (6, .int x15_)]) rfl ?_
        exact ih S11_ a0 x1 x2 x3 x4 x5 x15_ _ _ h
      · refine re_if_eq_f (pc := 99) 105 (by decide +kernel : decode cX13_opens 99 = .ok (.ifCond .eq 6, 3)) (by decide) g14_ ?_
        obtain ⟨x17_, g18_, h⟩ := rv_lt_e h
        refine re_iinc (pc := 102) 5 x17_ (lv1 := [(5, .int x17_), (0, .ref a0), (1, .int x1), (2, .int x2), (3, .int x3), (4, .int x4), (6, .int x6)]) (by decide +kernel : decode cX13_opens 102 = .ok (.iinc 5 1, 3)) rfl g18_ (by decide) rfl ?_
        obtain ⟨x19_, g20_, h⟩ := rv_lt_e h
        refine re_iinc (pc := 105) 6 x19_ (lv1 := [(6, .int x19_), (5, .int x17_), (0, .ref a0), (1, .int x1), (2, .int x2), (3, .int x3), (4, .int x4)]) (by decide +kernel : decode cX13_opens 105 = .ok (.iinc 6 1, 3)) rfl g20_ (by decide) rfl ?_
        refine re_goto (pc := 108) 84 (by decide +kernel : decode cX13_opens 108 = .ok (.goto (-24), 3)) (by decide) ?_
        refine re_sub [2, 3, 4, 5, 6, 1, 0] (lv1 := [(0, .ref a0), (1, .int x1), (2, .int x2), (3, .int x3), (4, .int x4), (5, .int x17_), (6, .int x19_)]) rfl ?_
        exact ih S11_ a0 x1 x2 x3 x4 x17_ x19_ _ _ h
noncomputable def cX13_opens_25 (n : Nat) (K15 : Nat → Int32 → Int32 → Int32 → rvS → Option (Int32 × rvS)) : Nat → rvS → Nat → Int32 → Int32 → Int32 → Int32 → Option (Int32 × rvS)
  | 0, _, _, _, _, _, _ => none
  | k + 1, S, a0, x1, x2, x3, x4 =>
    if (4 : Int32) ≤ x4 then (
      rv_lt (x3 + (1)) fun x2_ =>
      K15 a0 x1 x2 x2_ S)
    else (
      (rv_ck S 11 a0).bind fun u4_ =>
      (fnX13_areNear n S a0 x3 x4).bind fun x7_ =>
      if x7_ = 0 then (
        (rv_gR S 11 a0 14).bind fun a10_ =>
        rv_lt ((128 : Int32) + x3) fun x12_ =>
        (rv_aI S 0 a10_ x12_).bind fun x14_ =>
        (rv_uI S a10_ x12_ (x14_ ||| ((1 : Int32) <<< (x4 &&& 31)))).bind fun S16_ =>
        (rv_gR S16_ 11 a0 14).bind fun a18_ =>
        rv_lt ((128 : Int32) + x4) fun x20_ =>
        (rv_aI S16_ 0 a18_ x20_).bind fun x22_ =>
        (rv_uI S16_ a18_ x20_ (x22_ ||| ((1 : Int32) <<< (x3 &&& 31)))).bind fun S24_ =>
        cX13_opens_84 n K15 (fun a0 x1 x2 x3 x4 S => cX13_opens_25 n K15 k S a0 x1 x2 x3 x4) n S24_ a0 x1 x2 x3 x4 (0 : Int32) (0 : Int32))
      else (
        rv_lt (x4 + (1)) fun x26_ =>
        cX13_opens_25 n K15 k S a0 x1 x2 x3 x26_))
set_option maxRecDepth 20000 in
set_option maxHeartbeats 4000000 in
theorem eX13_opens_25 (n : Nat) (K15 : Nat → Int32 → Int32 → Int32 → rvS → Option (Int32 × rvS)) (hK15 : ∀ (a0 : Nat) (x1 : Int32) (x2 : Int32) (x3 : Int32) (S : rvS) (r : Int32) (S' : rvS), K15 a0 x1 x2 x3 S = some (r, S') → rv_Ev mX13_opens 6 15 [(0, .ref a0), (1, .int x1), (2, .int x2), (3, .int x3)] [] S (some (.int r)) S') : ∀ (k : Nat) (S : rvS) (a0 : Nat) (x1 : Int32) (x2 : Int32) (x3 : Int32) (x4 : Int32) (r : Int32) (S' : rvS), cX13_opens_25 n K15 k S a0 x1 x2 x3 x4 = some (r, S') → rv_Ev mX13_opens 6 25 [(0, .ref a0), (1, .int x1), (2, .int x2), (3, .int x3), (4, .int x4)] [] S (some (.int r)) S' := by
  intro k
  induction k with
  | zero => intro S a0 x1 x2 x3 x4 r S' h; exact absurd h (by simp [cX13_opens_25])
  | succ k ih =>
    intro S a0 x1 x2 x3 x4 r S' h
    unfold cX13_opens_25 at h
    refine re_iload (pc := 25) 4 (by decide +kernel : decode cX13_opens 25 = .ok (.iload 4, 2)) rfl ?_
    refine re_iconst (pc := 27) (4 : Int32) (by decide +kernel : decode cX13_opens 27 = .ok (.iconst 4, 1)) (by decide) ?_
    rcases rv_if_e h with ⟨g1_, h⟩ | ⟨g1_, h⟩
    · refine re_icmp_ge_t (pc := 28) 180 (by decide +kernel : decode cX13_opens 28 = .ok (.if_icmp .ge 152, 3)) (by decide) g1_ ?_
      obtain ⟨x2_, g3_, h⟩ := rv_lt_e h
      refine re_iinc (pc := 180) 3 x2_ (lv1 := [(3, .int x2_), (0, .ref a0), (1, .int x1), (2, .int x2), (4, .int x4)]) (by decide +kernel : decode cX13_opens 180 = .ok (.iinc 3 1, 3)) rfl g3_ (by decide) rfl ?_
      refine re_goto (pc := 183) 15 (by decide +kernel : decode cX13_opens 183 = .ok (.goto (-168), 3)) (by decide) ?_
      refine re_sub [1, 2, 3, 0] (lv1 := [(0, .ref a0), (1, .int x1), (2, .int x2), (3, .int x2_)]) rfl ?_
      exact hK15 a0 x1 x2 x2_ S _ _ h
    · refine re_icmp_ge_f (pc := 28) 180 (by decide +kernel : decode cX13_opens 28 = .ok (.if_icmp .ge 152, 3)) (by decide) g1_ ?_
      refine re_aloadn (pc := 31) 0 (by decide +kernel : decode cX13_opens 31 = .ok (.aload_n 0, 1)) rfl ?_
      refine re_iloadn (pc := 32) 3 (by decide +kernel : decode cX13_opens 32 = .ok (.iload_n 3, 1)) rfl ?_
      refine re_iload (pc := 33) 4 (by decide +kernel : decode cX13_opens 33 = .ok (.iload 4, 2)) rfl ?_
      obtain ⟨u4_, g5_, h⟩ := rv_b_e h
      obtain ⟨x7_, g8_, h⟩ := rv_b_e h
      have m6_ := metX13_areNear n S a0 x3 x4 _ g8_
      refine re_cV (pc := 35) [.int x3, .int x4] m6_ (rv_okl.k ⟨rfl, rfl⟩) (rv_up.rf _ _) (by decide) (rv_ck_e g5_) ⟨by decide, rfl⟩ (Nat.le_of_ble_eq_true rfl) lVX13_274 rfl (by decide +kernel : decode cX13_opens 35 = .ok (.invokevirtual 274, 3)) ?_
      rcases rv_if_e h with ⟨g9_, h⟩ | ⟨g9_, h⟩
      · refine re_if_eq_t (pc := 38) 44 (by decide +kernel : decode cX13_opens 38 = .ok (.ifCond .eq 6, 3)) (by decide) g9_ ?_
        refine re_aloadn (pc := 44) 0 (by decide +kernel : decode cX13_opens 44 = .ok (.aload_n 0, 1)) rfl ?_
        obtain ⟨a10_, g11_, h⟩ := rv_b_e h
        refine re_gR (pc := 45) g11_ lfX13_13 rfl (by decide +kernel : decode cX13_opens 45 = .ok (.getfield 13, 3)) ?_
        refine re_sipush (pc := 48) (128 : Int32) (by decide +kernel : decode cX13_opens 48 = .ok (.sipush 128, 3)) (by decide) ?_
        refine re_iloadn (pc := 51) 3 (by decide +kernel : decode cX13_opens 51 = .ok (.iload_n 3, 1)) rfl ?_
        refine re_iadd (pc := 52) (by decide +kernel : decode cX13_opens 52 = .ok (.iadd, 1)) ?_
        obtain ⟨x12_, g13_, h⟩ := rv_lt_e h
        refine re_nI (pc := 53) g13_ ?_
        refine re_dup2 (pc := 53) (by decide +kernel : decode cX13_opens 53 = .ok (.dup2, 1)) rfl rfl ?_
        obtain ⟨x14_, g15_, h⟩ := rv_b_e h
        refine re_aI (pc := 54) g15_ (by decide +kernel : decode cX13_opens 54 = .ok (.iaload, 1)) ?_
        refine re_iconst (pc := 55) (1 : Int32) (by decide +kernel : decode cX13_opens 55 = .ok (.iconst 1, 1)) (by decide) ?_
        refine re_iload (pc := 56) 4 (by decide +kernel : decode cX13_opens 56 = .ok (.iload 4, 2)) rfl ?_
        refine re_ishl (pc := 58) (by decide +kernel : decode cX13_opens 58 = .ok (.ishl, 1)) ?_
        refine re_ior (pc := 59) (by decide +kernel : decode cX13_opens 59 = .ok (.ior, 1)) ?_
        obtain ⟨S16_, g17_, h⟩ := rv_b_e h
        refine re_uI (pc := 60) g17_ (by decide +kernel : decode cX13_opens 60 = .ok (.iastore, 1)) ?_
        refine re_aloadn (pc := 61) 0 (by decide +kernel : decode cX13_opens 61 = .ok (.aload_n 0, 1)) rfl ?_
        obtain ⟨a18_, g19_, h⟩ := rv_b_e h
        refine re_gR (pc := 62) g19_ lfX13_13 rfl (by decide +kernel : decode cX13_opens 62 = .ok (.getfield 13, 3)) ?_
        refine re_sipush (pc := 65) (128 : Int32) (by decide +kernel : decode cX13_opens 65 = .ok (.sipush 128, 3)) (by decide) ?_
        refine re_iload (pc := 68) 4 (by decide +kernel : decode cX13_opens 68 = .ok (.iload 4, 2)) rfl ?_
        refine re_iadd (pc := 70) (by decide +kernel : decode cX13_opens 70 = .ok (.iadd, 1)) ?_
        obtain ⟨x20_, g21_, h⟩ := rv_lt_e h
        refine re_nI (pc := 71) g21_ ?_
        refine re_dup2 (pc := 71) (by decide +kernel : decode cX13_opens 71 = .ok (.dup2, 1)) rfl rfl ?_
        obtain ⟨x22_, g23_, h⟩ := rv_b_e h
        refine re_aI (pc := 72) g23_ (by decide +kernel : decode cX13_opens 72 = .ok (.iaload, 1)) ?_
        refine re_iconst (pc := 73) (1 : Int32) (by decide +kernel : decode cX13_opens 73 = .ok (.iconst 1, 1)) (by decide) ?_
        refine re_iloadn (pc := 74) 3 (by decide +kernel : decode cX13_opens 74 = .ok (.iload_n 3, 1)) rfl ?_
        refine re_ishl (pc := 75) (by decide +kernel : decode cX13_opens 75 = .ok (.ishl, 1)) ?_
        refine re_ior (pc := 76) (by decide +kernel : decode cX13_opens 76 = .ok (.ior, 1)) ?_
        obtain ⟨S24_, g25_, h⟩ := rv_b_e h
        refine re_uI (pc := 77) g25_ (by decide +kernel : decode cX13_opens 77 = .ok (.iastore, 1)) ?_
        refine re_iconst (pc := 78) (0 : Int32) (by decide +kernel : decode cX13_opens 78 = .ok (.iconst 0, 1)) (by decide) ?_
        refine re_istore (pc := 79) (lv1 := [(5, .int (0 : Int32)), (0, .ref a0), (1, .int x1), (2, .int x2), (3, .int x3), (4, .int x4)]) (by decide +kernel : decode cX13_opens 79 = .ok (.istore 5, 2)) (by decide) rfl ?_
        refine re_iconst (pc := 81) (0 : Int32) (by decide +kernel : decode cX13_opens 81 = .ok (.iconst 0, 1)) (by decide) ?_
        refine re_istore (pc := 82) (lv1 := [(6, .int (0 : Int32)), (5, .int (0 : Int32)), (0, .ref a0), (1, .int x1), (2, .int x2), (3, .int x3), (4, .int x4)]) (by decide +kernel : decode cX13_opens 82 = .ok (.istore 6, 2)) (by decide) rfl ?_
        refine re_sub [2, 3, 4, 5, 6, 1, 0] (lv1 := [(0, .ref a0), (1, .int x1), (2, .int x2), (3, .int x3), (4, .int x4), (5, .int (0 : Int32)), (6, .int (0 : Int32))]) rfl ?_
        exact eX13_opens_84 n K15 (fun a0 x1 x2 x3 x4 S => cX13_opens_25 n K15 k S a0 x1 x2 x3 x4) hK15 (fun a0 x1 x2 x3 x4 S _ _ h => ih S a0 x1 x2 x3 x4 _ _ h) n S24_ a0 x1 x2 x3 x4 (0 : Int32) (0 : Int32) _ _ h
      · refine re_if_eq_f (pc := 38) 44 (by decide +kernel : decode cX13_opens 38 = .ok (.ifCond .eq 6, 3)) (by decide) g9_ ?_
        refine re_goto (pc := 41) 174 (by decide +kernel : decode cX13_opens 41 = .ok (.goto 133, 3)) (by decide) ?_
        obtain ⟨x26_, g27_, h⟩ := rv_lt_e h
        refine re_iinc (pc := 174) 4 x26_ (lv1 := [(4, .int x26_), (0, .ref a0), (1, .int x1), (2, .int x2), (3, .int x3)]) (by decide +kernel : decode cX13_opens 174 = .ok (.iinc 4 1, 3)) rfl g27_ (by decide) rfl ?_
        refine re_goto (pc := 177) 25 (by decide +kernel : decode cX13_opens 177 = .ok (.goto (-152), 3)) (by decide) ?_
        refine re_sub [1, 2, 3, 4, 0] (lv1 := [(0, .ref a0), (1, .int x1), (2, .int x2), (3, .int x3), (4, .int x26_)]) rfl ?_
        exact ih S a0 x1 x2 x3 x26_ _ _ h
noncomputable def cX13_opens_15 (n : Nat) : Nat → rvS → Nat → Int32 → Int32 → Int32 → Option (Int32 × rvS)
  | 0, _, _, _, _, _ => none
  | k + 1, S, a0, x1, x2, x3 =>
    if (4 : Int32) ≤ x3 then (
      some (x1, S))
    else (
      rv_lt (x3 + (1 : Int32)) fun x2_ =>
      cX13_opens_25 n (fun a0 x1 x2 x3 S => cX13_opens_15 n k S a0 x1 x2 x3) n S a0 x1 x2 x3 x2_)
set_option maxRecDepth 20000 in
set_option maxHeartbeats 4000000 in
theorem eX13_opens_15 (n : Nat) : ∀ (k : Nat) (S : rvS) (a0 : Nat) (x1 : Int32) (x2 : Int32) (x3 : Int32) (r : Int32) (S' : rvS), cX13_opens_15 n k S a0 x1 x2 x3 = some (r, S') → rv_Ev mX13_opens 6 15 [(0, .ref a0), (1, .int x1), (2, .int x2), (3, .int x3)] [] S (some (.int r)) S' := by
  intro k
  induction k with
  | zero => intro S a0 x1 x2 x3 r S' h; exact absurd h (by simp [cX13_opens_15])
  | succ k ih =>
    intro S a0 x1 x2 x3 r S' h
    unfold cX13_opens_15 at h
    refine re_iloadn (pc := 15) 3 (by decide +kernel : decode cX13_opens 15 = .ok (.iload_n 3, 1)) rfl ?_
    refine re_iconst (pc := 16) (4 : Int32) (by decide +kernel : decode cX13_opens 16 = .ok (.iconst 4, 1)) (by decide) ?_
    rcases rv_if_e h with ⟨g1_, h⟩ | ⟨g1_, h⟩
    · refine re_icmp_ge_t (pc := 17) 186 (by decide +kernel : decode cX13_opens 17 = .ok (.if_icmp .ge 169, 3)) (by decide) g1_ ?_
      refine re_iloadn (pc := 186) 1 (by decide +kernel : decode cX13_opens 186 = .ok (.iload_n 1, 1)) rfl ?_
      cases h
      exact re_iret (fun ty hty => by cases hty; rfl) (by decide +kernel : decode cX13_opens 187 = .ok (.ireturn, 1))
    · refine re_icmp_ge_f (pc := 17) 186 (by decide +kernel : decode cX13_opens 17 = .ok (.if_icmp .ge 169, 3)) (by decide) g1_ ?_
      refine re_iloadn (pc := 20) 3 (by decide +kernel : decode cX13_opens 20 = .ok (.iload_n 3, 1)) rfl ?_
      refine re_iconst (pc := 21) (1 : Int32) (by decide +kernel : decode cX13_opens 21 = .ok (.iconst 1, 1)) (by decide) ?_
      refine re_iadd (pc := 22) (by decide +kernel : decode cX13_opens 22 = .ok (.iadd, 1)) ?_
      obtain ⟨x2_, g3_, h⟩ := rv_lt_e h
      refine re_nI (pc := 23) g3_ ?_
      refine re_istore (pc := 23) (lv1 := [(4, .int x2_), (0, .ref a0), (1, .int x1), (2, .int x2), (3, .int x3)]) (by decide +kernel : decode cX13_opens 23 = .ok (.istore 4, 2)) (by decide) rfl ?_
      refine re_sub [1, 2, 3, 4, 0] (lv1 := [(0, .ref a0), (1, .int x1), (2, .int x2), (3, .int x3), (4, .int x2_)]) rfl ?_
      exact eX13_opens_25 n (fun a0 x1 x2 x3 S => cX13_opens_15 n k S a0 x1 x2 x3) (fun a0 x1 x2 x3 S _ _ h => ih S a0 x1 x2 x3 _ _ h) n S a0 x1 x2 x3 x2_ _ _ h
noncomputable def fnX13_opens (n : Nat) (S : rvS) (a0 : Nat) : Option (Int32 × rvS) :=
  (rv_pI S 11 a0 0 (0 : Int32)).bind fun S1_ =>
  (rv_ck S1_ 11 a0).bind fun u3_ =>
  (fnX13_lay n S1_ a0).bind fun S6_ =>
  cX13_opens_15 n n S6_ a0 (-1 : Int32) (0 : Int32) (0 : Int32)
set_option maxRecDepth 20000 in
set_option maxHeartbeats 4000000 in
theorem eX13_opens_in (n : Nat) (S : rvS) (a0 : Nat) (r : Int32) (S' : rvS) (h : fnX13_opens n S a0 = some (r, S')) : rv_Ev mX13_opens 6 0 [(0, .ref a0)] [] S (some (.int r)) S' := by
  unfold fnX13_opens at h
  refine re_aloadn (pc := 0) 0 (by decide +kernel : decode cX13_opens 0 = .ok (.aload_n 0, 1)) rfl ?_
  refine re_iconst (pc := 1) (0 : Int32) (by decide +kernel : decode cX13_opens 1 = .ok (.iconst 0, 1)) (by decide) ?_
  obtain ⟨S1_, g2_, h⟩ := rv_b_e h
  refine re_pI (pc := 2) g2_ lfX13_99 rfl rfl rfl rfl (by decide +kernel : decode cX13_opens 2 = .ok (.putfield 99, 3)) ?_
  refine re_aloadn (pc := 5) 0 (by decide +kernel : decode cX13_opens 5 = .ok (.aload_n 0, 1)) rfl ?_
  obtain ⟨u3_, g4_, h⟩ := rv_b_e h
  obtain ⟨S6_, g7_, h⟩ := rv_b_e h
  have m5_ := metX13_lay n S1_ a0 _ g7_
  have z8_ : rv_same S1_ S6_ := m5_.sh rfl
  refine re_cV (pc := 6) [] m5_ (rv_okl.k z8_) (rv_up.sh z8_) (by decide) (rv_ck_e g4_) ⟨by decide, rfl⟩ (Nat.le_of_ble_eq_true rfl) lVX13_187 rfl (by decide +kernel : decode cX13_opens 6 = .ok (.invokevirtual 187, 3)) ?_
  refine re_iconst (pc := 9) (-1 : Int32) (by decide +kernel : decode cX13_opens 9 = .ok (.iconst (-1), 1)) (by decide) ?_
  refine re_istoren (pc := 10) (lv1 := [(1, .int (-1 : Int32)), (0, .ref a0)]) (by decide +kernel : decode cX13_opens 10 = .ok (.istore_n 1, 1)) rfl (by decide) rfl ?_
  refine re_iconst (pc := 11) (0 : Int32) (by decide +kernel : decode cX13_opens 11 = .ok (.iconst 0, 1)) (by decide) ?_
  refine re_istoren (pc := 12) (lv1 := [(2, .int (0 : Int32)), (1, .int (-1 : Int32)), (0, .ref a0)]) (by decide +kernel : decode cX13_opens 12 = .ok (.istore_n 2, 1)) rfl (by decide) rfl ?_
  refine re_iconst (pc := 13) (0 : Int32) (by decide +kernel : decode cX13_opens 13 = .ok (.iconst 0, 1)) (by decide) ?_
  refine re_istoren (pc := 14) (lv1 := [(3, .int (0 : Int32)), (2, .int (0 : Int32)), (1, .int (-1 : Int32)), (0, .ref a0)]) (by decide +kernel : decode cX13_opens 14 = .ok (.istore_n 3, 1)) rfl (by decide) rfl ?_
  refine re_sub [3, 2, 1, 0] (lv1 := [(0, .ref a0), (1, .int (-1 : Int32)), (2, .int (0 : Int32)), (3, .int (0 : Int32))]) rfl ?_
  exact eX13_opens_15 n n S6_ a0 (-1 : Int32) (0 : Int32) (0 : Int32) _ _ h
theorem metX13_opens (n : Nat) (S : rvS) (a0 : Nat) (r : Int32) (S' : rvS) (h : fnX13_opens n S a0 = some (r, S')) : rv_Met yX13_opens mX13_opens 6 [.ref a0] S (some (.int r)) S' := rv_Met.of ⟨by decide +kernel, rfl, (fun z => by first | rfl | cases z), rfl⟩ (Nat.le_of_ble_eq_true rfl) rfl (eX13_opens_in n S a0 r S' h)
noncomputable def cX13_code_9 (n : Nat) (S : rvS) : Nat → Nat → Int32 → Int32 → Option Int32
  | 0, _, _, _ => none
  | k + 1, a0, x1, x2 =>
    if (3 : Int32) ≤ x2 then (
      some x1)
    else (
      (rv_gR S 11 a0 24).bind fun a2_ =>
      (rv_aI S 0 a2_ (1 : Int32)).bind fun x4_ =>
      if x4_ ≤ x2 then (
        rv_lt (((25 : Int32) * x1) + (0 : Int32)) fun x7_ =>
        rv_lt (x2 + (1)) fun x9_ =>
        cX13_code_9 n S k a0 x7_ x9_)
      else (
        (rv_gR S 11 a0 24).bind fun a11_ =>
        (rv_aI S 0 a11_ ((2 : Int32) + x2)).bind fun x13_ =>
        rv_lt (((25 : Int32) * x1) + (x13_ + (1 : Int32))) fun x15_ =>
        rv_lt (x2 + (1)) fun x17_ =>
        cX13_code_9 n S k a0 x15_ x17_))
set_option maxRecDepth 20000 in
set_option maxHeartbeats 4000000 in
theorem eX13_code_9 (n : Nat) (S : rvS) : ∀ (k : Nat) (a0 : Nat) (x1 : Int32) (x2 : Int32) (r : Int32), cX13_code_9 n S k a0 x1 x2 = some r → rv_Ev mX13_code 0 9 [(0, .ref a0), (1, .int x1), (2, .int x2)] [] S (some (.int r)) S := by
  intro k
  induction k with
  | zero => intro a0 x1 x2 r h; exact absurd h (by simp [cX13_code_9])
  | succ k ih =>
    intro a0 x1 x2 r h
    unfold cX13_code_9 at h
    refine re_iloadn (pc := 9) 2 (by decide +kernel : decode cX13_code 9 = .ok (.iload_n 2, 1)) rfl ?_
    refine re_iconst (pc := 10) (3 : Int32) (by decide +kernel : decode cX13_code 10 = .ok (.iconst 3, 1)) (by decide) ?_
    rcases rv_if_e h with ⟨g1_, h⟩ | ⟨g1_, h⟩
    · refine re_icmp_ge_t (pc := 11) 50 (by decide +kernel : decode cX13_code 11 = .ok (.if_icmp .ge 39, 3)) (by decide) g1_ ?_
      refine re_iloadn (pc := 50) 1 (by decide +kernel : decode cX13_code 50 = .ok (.iload_n 1, 1)) rfl ?_
      cases h
      exact re_iret (fun ty hty => by cases hty; rfl) (by decide +kernel : decode cX13_code 51 = .ok (.ireturn, 1))
    · refine re_icmp_ge_f (pc := 11) 50 (by decide +kernel : decode cX13_code 11 = .ok (.if_icmp .ge 39, 3)) (by decide) g1_ ?_
      refine re_bipush (pc := 14) (25 : Int32) (by decide +kernel : decode cX13_code 14 = .ok (.bipush 25, 2)) (by decide) ?_
      refine re_iloadn (pc := 16) 1 (by decide +kernel : decode cX13_code 16 = .ok (.iload_n 1, 1)) rfl ?_
      refine re_imul (pc := 17) (by decide +kernel : decode cX13_code 17 = .ok (.imul, 1)) ?_
      refine re_iloadn (pc := 18) 2 (by decide +kernel : decode cX13_code 18 = .ok (.iload_n 2, 1)) rfl ?_
      refine re_aloadn (pc := 19) 0 (by decide +kernel : decode cX13_code 19 = .ok (.aload_n 0, 1)) rfl ?_
      obtain ⟨a2_, g3_, h⟩ := rv_b_e h
      refine re_gR (pc := 20) g3_ lfX13_39 rfl (by decide +kernel : decode cX13_code 20 = .ok (.getfield 39, 3)) ?_
      refine re_iconst (pc := 23) (1 : Int32) (by decide +kernel : decode cX13_code 23 = .ok (.iconst 1, 1)) (by decide) ?_
      obtain ⟨x4_, g5_, h⟩ := rv_b_e h
      refine re_aI (pc := 24) g5_ (by decide +kernel : decode cX13_code 24 = .ok (.iaload, 1)) ?_
      rcases rv_if_e h with ⟨g6_, h⟩ | ⟨g6_, h⟩
      · refine re_icmp_ge_t (pc := 25) 41 (by decide +kernel : decode cX13_code 25 = .ok (.if_icmp .ge 16, 3)) (by decide) g6_ ?_
        refine re_iconst (pc := 41) (0 : Int32) (by decide +kernel : decode cX13_code 41 = .ok (.iconst 0, 1)) (by decide) ?_
        refine re_iadd (pc := 42) (by decide +kernel : decode cX13_code 42 = .ok (.iadd, 1)) ?_
        obtain ⟨x7_, g8_, h⟩ := rv_lt_e h
        refine re_nI (pc := 43) g8_ ?_
        refine re_istoren (pc := 43) (lv1 := [(1, .int x7_), (0, .ref a0), (2, .int x2)]) (by decide +kernel : decode cX13_code 43 = .ok (.istore_n 1, 1)) rfl (by decide) rfl ?_
        obtain ⟨x9_, g10_, h⟩ := rv_lt_e h
        refine re_iinc (pc := 44) 2 x9_ (lv1 := [(2, .int x9_), (1, .int x7_), (0, .ref a0)]) (by decide +kernel : decode cX13_code 44 = .ok (.iinc 2 1, 3)) rfl g10_ (by decide) rfl ?_
        refine re_goto (pc := 47) 9 (by decide +kernel : decode cX13_code 47 = .ok (.goto (-38), 3)) (by decide) ?_
        refine re_sub [2, 1, 0] (lv1 := [(0, .ref a0), (1, .int x7_), (2, .int x9_)]) rfl ?_
        exact ih a0 x7_ x9_ _ h
      · refine re_icmp_ge_f (pc := 25) 41 (by decide +kernel : decode cX13_code 25 = .ok (.if_icmp .ge 16, 3)) (by decide) g6_ ?_
        refine re_aloadn (pc := 28) 0 (by decide +kernel : decode cX13_code 28 = .ok (.aload_n 0, 1)) rfl ?_
        obtain ⟨a11_, g12_, h⟩ := rv_b_e h
        refine re_gR (pc := 29) g12_ lfX13_39 rfl (by decide +kernel : decode cX13_code 29 = .ok (.getfield 39, 3)) ?_
        refine re_iconst (pc := 32) (2 : Int32) (by decide +kernel : decode cX13_code 32 = .ok (.iconst 2, 1)) (by decide) ?_
        refine re_iloadn (pc := 33) 2 (by decide +kernel : decode cX13_code 33 = .ok (.iload_n 2, 1)) rfl ?_
        refine re_iadd (pc := 34) (by decide +kernel : decode cX13_code 34 = .ok (.iadd, 1)) ?_
        obtain ⟨x13_, g14_, h⟩ := rv_b_e h
        refine re_aI (pc := 35) g14_ (by decide +kernel : decode cX13_code 35 = .ok (.iaload, 1)) ?_
        refine re_iconst (pc := 36) (1 : Int32) (by decide +kernel : decode cX13_code 36 = .ok (.iconst 1, 1)) (by decide) ?_
        refine re_iadd (pc := 37) (by decide +kernel : decode cX13_code 37 = .ok (.iadd, 1)) ?_
        refine re_goto (pc := 38) 42 (by decide +kernel : decode cX13_code 38 = .ok (.goto 4, 3)) (by decide) ?_
        refine re_iadd (pc := 42) (by decide +kernel : decode cX13_code 42 = .ok (.iadd, 1)) ?_
        obtain ⟨x15_, g16_, h⟩ := rv_lt_e h
        refine re_nI (pc := 43) g16_ ?_
        refine re_istoren (pc := 43) (lv1 := [(1, .int x15_), (0, .ref a0), (2, .int x2)]) (by decide +kernel : decode cX13_code 43 = .ok (.istore_n 1, 1)) rfl (by decide) rfl ?_
        obtain ⟨x17_, g18_, h⟩ := rv_lt_e h
        refine re_iinc (pc := 44) 2 x17_ (lv1 := [(2, .int x17_), (1, .int x15_), (0, .ref a0)]) (by decide +kernel : decode cX13_code 44 = .ok (.iinc 2 1, 3)) rfl g18_ (by decide) rfl ?_
        refine re_goto (pc := 47) 9 (by decide +kernel : decode cX13_code 47 = .ok (.goto (-38), 3)) (by decide) ?_
        refine re_sub [2, 1, 0] (lv1 := [(0, .ref a0), (1, .int x15_), (2, .int x17_)]) rfl ?_
        exact ih a0 x15_ x17_ _ h
noncomputable def fnX13_code (n : Nat) (S : rvS) (a0 : Nat) : Option Int32 :=
  (rv_gR S 11 a0 24).bind fun a1_ =>
  (rv_aI S 0 a1_ (0 : Int32)).bind fun x3_ =>
  cX13_code_9 n S n a0 x3_ (0 : Int32)
set_option maxRecDepth 20000 in
set_option maxHeartbeats 4000000 in
theorem eX13_code_in (n : Nat) (S : rvS) (a0 : Nat) (r : Int32) (h : fnX13_code n S a0 = some r) : rv_Ev mX13_code 0 0 [(0, .ref a0)] [] S (some (.int r)) S := by
  unfold fnX13_code at h
  refine re_aloadn (pc := 0) 0 (by decide +kernel : decode cX13_code 0 = .ok (.aload_n 0, 1)) rfl ?_
  obtain ⟨a1_, g2_, h⟩ := rv_b_e h
  refine re_gR (pc := 1) g2_ lfX13_39 rfl (by decide +kernel : decode cX13_code 1 = .ok (.getfield 39, 3)) ?_
  refine re_iconst (pc := 4) (0 : Int32) (by decide +kernel : decode cX13_code 4 = .ok (.iconst 0, 1)) (by decide) ?_
  obtain ⟨x3_, g4_, h⟩ := rv_b_e h
  refine re_aI (pc := 5) g4_ (by decide +kernel : decode cX13_code 5 = .ok (.iaload, 1)) ?_
  refine re_istoren (pc := 6) (lv1 := [(1, .int x3_), (0, .ref a0)]) (by decide +kernel : decode cX13_code 6 = .ok (.istore_n 1, 1)) rfl (by decide) rfl ?_
  refine re_iconst (pc := 7) (0 : Int32) (by decide +kernel : decode cX13_code 7 = .ok (.iconst 0, 1)) (by decide) ?_
  refine re_istoren (pc := 8) (lv1 := [(2, .int (0 : Int32)), (1, .int x3_), (0, .ref a0)]) (by decide +kernel : decode cX13_code 8 = .ok (.istore_n 2, 1)) rfl (by decide) rfl ?_
  refine re_sub [2, 1, 0] (lv1 := [(0, .ref a0), (1, .int x3_), (2, .int (0 : Int32))]) rfl ?_
  exact eX13_code_9 n S n a0 x3_ (0 : Int32) _ h
theorem metX13_code (n : Nat) (S : rvS) (a0 : Nat) (r : Int32) (h : fnX13_code n S a0 = some r) : rv_Met yX13_code mX13_code 0 [.ref a0] S (some (.int r)) S := rv_Met.of ⟨by decide +kernel, rfl, (fun z => by first | rfl | cases z), rfl⟩ (Nat.le_of_ble_eq_true rfl) rfl (eX13_code_in n S a0 r h)
noncomputable def cX13_uncode_50 (n : Nat) (K11 : Nat → Int32 → Int32 → rvS → Option rvS) (S : rvS) (a0 : Nat) (x2 : Int32) (x3 : Int32) : Option rvS :=
  (rv_nz (25 : Int32)).bind fun u1_ =>
  rv_lt (x2 / (25 : Int32)) fun x3_ =>
  rv_lt (x3 + (-1)) fun x5_ =>
  K11 a0 x3_ x5_ S
set_option maxRecDepth 20000 in
set_option maxHeartbeats 4000000 in
theorem eX13_uncode_50 (n : Nat) (K11 : Nat → Int32 → Int32 → rvS → Option rvS) (hK11 : ∀ (a0 : Nat) (x2 : Int32) (x3 : Int32) (S : rvS) (S' : rvS), K11 a0 x2 x3 S = some S' → rv_Ev mX13_uncode 0 11 [(0, .ref a0), (2, .int x2), (3, .int x3)] [] S none S') (S : rvS) (a0 : Nat) (x2 : Int32) (x3 : Int32) (S' : rvS) (h : cX13_uncode_50 n K11 S a0 x2 x3 = some S') : rv_Ev mX13_uncode 0 50 [(0, .ref a0), (2, .int x2), (3, .int x3)] [] S none S' := by
  unfold cX13_uncode_50 at h
  refine re_iloadn (pc := 50) 1 (by decide +kernel : decode cX13_uncode 50 = .ok (.iload_n 2, 1)) rfl ?_
  refine re_bipush (pc := 51) (25 : Int32) (by decide +kernel : decode cX13_uncode 51 = .ok (.bipush 25, 2)) (by decide) ?_
  obtain ⟨u1_, g2_, h⟩ := rv_b_e h
  refine re_idiv (pc := 53) (by decide +kernel : decode cX13_uncode 53 = .ok (.idiv, 1)) (rv_nz_e g2_) ?_
  obtain ⟨x3_, g4_, h⟩ := rv_lt_e h
  refine re_nI (pc := 54) g4_ ?_
  refine re_istoren (pc := 54) (lv1 := [(2, .int x3_), (0, .ref a0), (3, .int x3)]) (by decide +kernel : decode cX13_uncode 54 = .ok (.istore_n 2, 1)) rfl (by decide) rfl ?_
  obtain ⟨x5_, g6_, h⟩ := rv_lt_e h
  refine re_iinc (pc := 55) 2 x5_ (lv1 := [(3, .int x5_), (2, .int x3_), (0, .ref a0)]) (by decide +kernel : decode cX13_uncode 55 = .ok (.iinc 3 (-1), 3)) rfl g6_ (by decide) rfl ?_
  refine re_goto (pc := 58) 11 (by decide +kernel : decode cX13_uncode 58 = .ok (.goto (-47), 3)) (by decide) ?_
  refine re_sub [2, 1, 0] (lv1 := [(0, .ref a0), (2, .int x3_), (3, .int x5_)]) rfl ?_
  exact hK11 a0 x3_ x5_ S _ h
noncomputable def cX13_uncode_11 (n : Nat) : Nat → rvS → Nat → Int32 → Int32 → Option rvS
  | 0, _, _, _, _ => none
  | k + 1, S, a0, x2, x3 =>
    if x3 < 0 then (
      (rv_gR S 11 a0 24).bind fun a2_ =>
      (rv_uI S a2_ (0 : Int32) x2).bind fun S4_ =>
      some S4_)
    else (
      (rv_gR S 11 a0 24).bind fun a6_ =>
      (rv_nz (25 : Int32)).bind fun u8_ =>
      (rv_uI S a6_ ((2 : Int32) + x3) ((x2 - x2 / (25 : Int32) * (25 : Int32)) - (1 : Int32))).bind fun S10_ =>
      (rv_gR S10_ 11 a0 24).bind fun a12_ =>
      (rv_aI S10_ 0 a12_ ((2 : Int32) + x3)).bind fun x14_ =>
      if x14_ < 0 then (
        cX13_uncode_50 n (fun a0 x2 x3 S => cX13_uncode_11 n k S a0 x2 x3) S10_ a0 x2 x3)
      else (
        (rv_gR S10_ 11 a0 24).bind fun a17_ =>
        (rv_aI S10_ 0 a17_ (1 : Int32)).bind fun x19_ =>
        (rv_uI S10_ a17_ (1 : Int32) (x19_ + (1 : Int32))).bind fun S21_ =>
        cX13_uncode_50 n (fun a0 x2 x3 S => cX13_uncode_11 n k S a0 x2 x3) S21_ a0 x2 x3))
set_option maxRecDepth 20000 in
set_option maxHeartbeats 4000000 in
theorem eX13_uncode_11 (n : Nat) : ∀ (k : Nat) (S : rvS) (a0 : Nat) (x2 : Int32) (x3 : Int32) (S' : rvS), cX13_uncode_11 n k S a0 x2 x3 = some S' → rv_Ev mX13_uncode 0 11 [(0, .ref a0), (2, .int x2), (3, .int x3)] [] S none S' := by
  intro k
  induction k with
  | zero => intro S a0 x2 x3 S' h; exact absurd h (by simp [cX13_uncode_11])
  | succ k ih =>
    intro S a0 x2 x3 S' h
    unfold cX13_uncode_11 at h
    refine re_iloadn (pc := 11) 2 (by decide +kernel : decode cX13_uncode 11 = .ok (.iload_n 3, 1)) rfl ?_
    rcases rv_if_e h with ⟨g1_, h⟩ | ⟨g1_, h⟩
    · refine re_if_lt_t (pc := 12) 61 (by decide +kernel : decode cX13_uncode 12 = .ok (.ifCond .lt 49, 3)) (by decide) g1_ ?_
      refine re_aloadn (pc := 61) 0 (by decide +kernel : decode cX13_uncode 61 = .ok (.aload_n 0, 1)) rfl ?_
      obtain ⟨a2_, g3_, h⟩ := rv_b_e h
      refine re_gR (pc := 62) g3_ lfX13_39 rfl (by decide +kernel : decode cX13_uncode 62 = .ok (.getfield 39, 3)) ?_
      refine re_iconst (pc := 65) (0 : Int32) (by decide +kernel : decode cX13_uncode 65 = .ok (.iconst 0, 1)) (by decide) ?_
      refine re_iloadn (pc := 66) 1 (by decide +kernel : decode cX13_uncode 66 = .ok (.iload_n 2, 1)) rfl ?_
      obtain ⟨S4_, g5_, h⟩ := rv_b_e h
      refine re_uI (pc := 67) g5_ (by decide +kernel : decode cX13_uncode 67 = .ok (.iastore, 1)) ?_
      cases h
      exact re_vret (by decide +kernel : decode cX13_uncode 68 = .ok (.return_, 1))
    · refine re_if_lt_f (pc := 12) 61 (by decide +kernel : decode cX13_uncode 12 = .ok (.ifCond .lt 49, 3)) (by decide) g1_ ?_
      refine re_aloadn (pc := 15) 0 (by decide +kernel : decode cX13_uncode 15 = .ok (.aload_n 0, 1)) rfl ?_
      obtain ⟨a6_, g7_, h⟩ := rv_b_e h
      refine re_gR (pc := 16) g7_ lfX13_39 rfl (by decide +kernel : decode cX13_uncode 16 = .ok (.getfield 39, 3)) ?_
      refine re_iconst (pc := 19) (2 : Int32) (by decide +kernel : decode cX13_uncode 19 = .ok (.iconst 2, 1)) (by decide) ?_
      refine re_iloadn (pc := 20) 2 (by decide +kernel : decode cX13_uncode 20 = .ok (.iload_n 3, 1)) rfl ?_
      refine re_iadd (pc := 21) (by decide +kernel : decode cX13_uncode 21 = .ok (.iadd, 1)) ?_
      refine re_iloadn (pc := 22) 1 (by decide +kernel : decode cX13_uncode 22 = .ok (.iload_n 2, 1)) rfl ?_
      refine re_bipush (pc := 23) (25 : Int32) (by decide +kernel : decode cX13_uncode 23 = .ok (.bipush 25, 2)) (by decide) ?_
      obtain ⟨u8_, g9_, h⟩ := rv_b_e h
      refine re_irem (pc := 25) (by decide +kernel : decode cX13_uncode 25 = .ok (.irem, 1)) (rv_nz_e g9_) ?_
      refine re_iconst (pc := 26) (1 : Int32) (by decide +kernel : decode cX13_uncode 26 = .ok (.iconst 1, 1)) (by decide) ?_
      refine re_isub (pc := 27) (by decide +kernel : decode cX13_uncode 27 = .ok (.isub, 1)) ?_
      obtain ⟨S10_, g11_, h⟩ := rv_b_e h
      refine re_uI (pc := 28) g11_ (by decide +kernel : decode cX13_uncode 28 = .ok (.iastore, 1)) ?_
      refine re_aloadn (pc := 29) 0 (by decide +kernel : decode cX13_uncode 29 = .ok (.aload_n 0, 1)) rfl ?_
      obtain ⟨a12_, g13_, h⟩ := rv_b_e h
      refine re_gR (pc := 30) g13_ lfX13_39 rfl (by decide +kernel : decode cX13_uncode 30 = .ok (.getfield 39, 3)) ?_
      refine re_iconst (pc := 33) (2 : Int32) (by decide +kernel : decode cX13_uncode 33 = .ok (.iconst 2, 1)) (by decide) ?_
      refine re_iloadn (pc := 34) 2 (by decide +kernel : decode cX13_uncode 34 = .ok (.iload_n 3, 1)) rfl ?_
      refine re_iadd (pc := 35) (by decide +kernel : decode cX13_uncode 35 = .ok (.iadd, 1)) ?_
      obtain ⟨x14_, g15_, h⟩ := rv_b_e h
      refine re_aI (pc := 36) g15_ (by decide +kernel : decode cX13_uncode 36 = .ok (.iaload, 1)) ?_
      rcases rv_if_e h with ⟨g16_, h⟩ | ⟨g16_, h⟩
      · refine re_if_lt_t (pc := 37) 50 (by decide +kernel : decode cX13_uncode 37 = .ok (.ifCond .lt 13, 3)) (by decide) g16_ ?_
        exact eX13_uncode_50 n (fun a0 x2 x3 S => cX13_uncode_11 n k S a0 x2 x3) (fun a0 x2 x3 S _ h => ih S a0 x2 x3 _ h) S10_ a0 x2 x3 _ h
      · refine re_if_lt_f (pc := 37) 50 (by decide +kernel : decode cX13_uncode 37 = .ok (.ifCond .lt 13, 3)) (by decide) g16_ ?_
        refine re_aloadn (pc := 40) 0 (by decide +kernel : decode cX13_uncode 40 = .ok (.aload_n 0, 1)) rfl ?_
        obtain ⟨a17_, g18_, h⟩ := rv_b_e h
        refine re_gR (pc := 41) g18_ lfX13_39 rfl (by decide +kernel : decode cX13_uncode 41 = .ok (.getfield 39, 3)) ?_
        refine re_iconst (pc := 44) (1 : Int32) (by decide +kernel : decode cX13_uncode 44 = .ok (.iconst 1, 1)) (by decide) ?_
        refine re_dup2 (pc := 45) (by decide +kernel : decode cX13_uncode 45 = .ok (.dup2, 1)) rfl rfl ?_
        obtain ⟨x19_, g20_, h⟩ := rv_b_e h
        refine re_aI (pc := 46) g20_ (by decide +kernel : decode cX13_uncode 46 = .ok (.iaload, 1)) ?_
        refine re_iconst (pc := 47) (1 : Int32) (by decide +kernel : decode cX13_uncode 47 = .ok (.iconst 1, 1)) (by decide) ?_
        refine re_iadd (pc := 48) (by decide +kernel : decode cX13_uncode 48 = .ok (.iadd, 1)) ?_
        obtain ⟨S21_, g22_, h⟩ := rv_b_e h
        refine re_uI (pc := 49) g22_ (by decide +kernel : decode cX13_uncode 49 = .ok (.iastore, 1)) ?_
        exact eX13_uncode_50 n (fun a0 x2 x3 S => cX13_uncode_11 n k S a0 x2 x3) (fun a0 x2 x3 S _ h => ih S a0 x2 x3 _ h) S21_ a0 x2 x3 _ h
noncomputable def fnX13_uncode (n : Nat) (S : rvS) (a0 : Nat) (x1 : Int32) : Option rvS :=
  (rv_gR S 11 a0 24).bind fun a1_ =>
  (rv_uI S a1_ (1 : Int32) (0 : Int32)).bind fun S3_ =>
  cX13_uncode_11 n n S3_ a0 x1 (2 : Int32)
set_option maxRecDepth 20000 in
set_option maxHeartbeats 4000000 in
theorem eX13_uncode_in (n : Nat) (S : rvS) (a0 : Nat) (x1 : Int32) (S' : rvS) (h : fnX13_uncode n S a0 x1 = some S') : rv_Ev mX13_uncode 0 0 [(0, .ref a0), (1, .int x1)] [] S none S' := by
  unfold fnX13_uncode at h
  refine re_iloadn (pc := 0) 1 (by decide +kernel : decode cX13_uncode 0 = .ok (.iload_n 1, 1)) rfl ?_
  refine re_istoren (pc := 1) (lv1 := [(2, .int x1), (0, .ref a0), (1, .int x1)]) (by decide +kernel : decode cX13_uncode 1 = .ok (.istore_n 2, 1)) rfl (by decide) rfl ?_
  refine re_aloadn (pc := 2) 1 (by decide +kernel : decode cX13_uncode 2 = .ok (.aload_n 0, 1)) rfl ?_
  obtain ⟨a1_, g2_, h⟩ := rv_b_e h
  refine re_gR (pc := 3) g2_ lfX13_39 rfl (by decide +kernel : decode cX13_uncode 3 = .ok (.getfield 39, 3)) ?_
  refine re_iconst (pc := 6) (1 : Int32) (by decide +kernel : decode cX13_uncode 6 = .ok (.iconst 1, 1)) (by decide) ?_
  refine re_iconst (pc := 7) (0 : Int32) (by decide +kernel : decode cX13_uncode 7 = .ok (.iconst 0, 1)) (by decide) ?_
  obtain ⟨S3_, g4_, h⟩ := rv_b_e h
  refine re_uI (pc := 8) g4_ (by decide +kernel : decode cX13_uncode 8 = .ok (.iastore, 1)) ?_
  refine re_iconst (pc := 9) (2 : Int32) (by decide +kernel : decode cX13_uncode 9 = .ok (.iconst 2, 1)) (by decide) ?_
  refine re_istoren (pc := 10) (lv1 := [(3, .int (2 : Int32)), (2, .int x1), (0, .ref a0), (1, .int x1)]) (by decide +kernel : decode cX13_uncode 10 = .ok (.istore_n 3, 1)) rfl (by decide) rfl ?_
  refine re_sub [2, 1, 0] (lv1 := [(0, .ref a0), (2, .int x1), (3, .int (2 : Int32))]) rfl ?_
  exact eX13_uncode_11 n n S3_ a0 x1 (2 : Int32) _ h
theorem metX13_uncode (n : Nat) (S : rvS) (a0 : Nat) (x1 : Int32) (S' : rvS) (h : fnX13_uncode n S a0 x1 = some S') : rv_Met yX13_uncode mX13_uncode 0 [.ref a0, .int x1] S none S' := rv_Met.of ⟨by decide +kernel, rfl, (fun z => by first | rfl | cases z), rfl⟩ (Nat.le_of_ble_eq_true rfl) rfl (eX13_uncode_in n S a0 x1 S' h)
noncomputable def cX13_reach_122 (n : Nat) (S : rvS) (a0 : Nat) (x5 : Int32) (x7 : Int32) : Option (Int32 × rvS) :=
  (rv_gR S 11 a0 32).bind fun a1_ =>
  (rv_aI S 0 a1_ x5).bind fun x3_ =>
  (rv_pI S 11 a0 37 x3_).bind fun S5_ =>
  some (x7, S5_)
set_option maxRecDepth 20000 in
set_option maxHeartbeats 4000000 in
theorem eX13_reach_122 (n : Nat) (S : rvS) (a0 : Nat) (x5 : Int32) (x7 : Int32) (r : Int32) (S' : rvS) (h : cX13_reach_122 n S a0 x5 x7 = some (r, S')) : rv_Ev mX13_reach 3 122 [(0, .ref a0), (5, .int x5), (7, .int x7)] [] S (some (.int r)) S' := by
  unfold cX13_reach_122 at h
  refine re_aloadn (pc := 122) 0 (by decide +kernel : decode cX13_reach 122 = .ok (.aload_n 0, 1)) rfl ?_
  refine re_aloadn (pc := 123) 0 (by decide +kernel : decode cX13_reach 123 = .ok (.aload_n 0, 1)) rfl ?_
  obtain ⟨a1_, g2_, h⟩ := rv_b_e h
  refine re_gR (pc := 124) g2_ lfX13_66 rfl (by decide +kernel : decode cX13_reach 124 = .ok (.getfield 66, 3)) ?_
  refine re_iload (pc := 127) 1 (by decide +kernel : decode cX13_reach 127 = .ok (.iload 5, 2)) rfl ?_
  obtain ⟨x3_, g4_, h⟩ := rv_b_e h
  refine re_aI (pc := 129) g4_ (by decide +kernel : decode cX13_reach 129 = .ok (.iaload, 1)) ?_
  obtain ⟨S5_, g6_, h⟩ := rv_b_e h
  refine re_pI (pc := 130) g6_ lfX13_375 rfl rfl rfl rfl (by decide +kernel : decode cX13_reach 130 = .ok (.putfield 375, 3)) ?_
  refine re_iload (pc := 133) 2 (by decide +kernel : decode cX13_reach 133 = .ok (.iload 7, 2)) rfl ?_
  cases h
  exact re_iret (fun ty hty => by cases hty; rfl) (by decide +kernel : decode cX13_reach 135 = .ok (.ireturn, 1))
noncomputable def cX13_reach_72 (n : Nat) (K60 : Nat → Int32 → Int32 → Int32 → rvS → Option (Int32 × rvS)) : Nat → rvS → Nat → Int32 → Int32 → Int32 → Int32 → Option (Int32 × rvS)
  | 0, _, _, _, _, _, _ => none
  | k + 1, S, a0, x2, x3, x5, x6 =>
    (rv_ck S 11 a0).bind fun u1_ =>
    (fnX13_whos n S a0).bind fun x4_ =>
    if x4_ ≤ x6 then (
      rv_lt (x5 + (1)) fun x7_ =>
      K60 a0 x2 x3 x7_ S)
    else (
      (rv_gR S 11 a0 32).bind fun a9_ =>
      (rv_aI S 0 a9_ x5).bind fun x11_ =>
      (rv_ck S 11 a0).bind fun u13_ =>
      (fnX13_uncode n S a0 x11_).bind fun S16_ =>
      (rv_ck S16_ 11 a0).bind fun u19_ =>
      (fnX13_whyNot n S16_ a0 x6).bind fun x22_ =>
      if x22_ = 0 then (
        (rv_ck S16_ 11 a0).bind fun u25_ =>
        (fnX13_pass n S16_ a0 x6).bind fun S28_ =>
        (rv_ck S28_ 11 a0).bind fun u31_ =>
        (fnX13_code n S28_ a0).bind fun x34_ =>
        if x34_ = x3 then (
          cX13_reach_122 n S28_ a0 x5 x34_)
        else (
          (rv_gR S28_ 11 a0 31).bind fun a37_ =>
          (rv_aI S28_ 0 a37_ x34_).bind fun x39_ =>
          if x39_ = (-1 : Int32) then (
            (rv_gR S28_ 11 a0 31).bind fun a42_ =>
            (rv_gR S28_ 11 a0 32).bind fun a44_ =>
            (rv_aI S28_ 0 a44_ x5).bind fun x46_ =>
            (rv_uI S28_ a42_ x34_ x46_).bind fun S48_ =>
            (rv_gR S48_ 11 a0 32).bind fun a50_ =>
            (rv_gI S48_ 11 a0 35).bind fun x52_ =>
            (rv_uI S48_ a50_ x52_ x34_).bind fun S54_ =>
            (rv_gI S54_ 11 a0 35).bind fun x56_ =>
            (rv_pI S54_ 11 a0 35 (x56_ + (1 : Int32))).bind fun S58_ =>
            if x6 = x2 then (
              some (x34_, S58_))
            else (
              rv_lt (x6 + (1)) fun x61_ =>
              cX13_reach_72 n K60 k S58_ a0 x2 x3 x5 x61_))
          else (
            rv_lt (x6 + (1)) fun x63_ =>
            cX13_reach_72 n K60 k S28_ a0 x2 x3 x5 x63_)))
      else (
        rv_lt (x6 + (1)) fun x65_ =>
        cX13_reach_72 n K60 k S16_ a0 x2 x3 x5 x65_))
set_option maxRecDepth 20000 in
set_option maxHeartbeats 4000000 in
theorem eX13_reach_72 (n : Nat) (K60 : Nat → Int32 → Int32 → Int32 → rvS → Option (Int32 × rvS)) (hK60 : ∀ (a0 : Nat) (x2 : Int32) (x3 : Int32) (x5 : Int32) (S : rvS) (r : Int32) (S' : rvS), K60 a0 x2 x3 x5 S = some (r, S') → rv_Ev mX13_reach 3 60 [(0, .ref a0), (2, .int x2), (3, .int x3), (5, .int x5)] [] S (some (.int r)) S') : ∀ (k : Nat) (S : rvS) (a0 : Nat) (x2 : Int32) (x3 : Int32) (x5 : Int32) (x6 : Int32) (r : Int32) (S' : rvS), cX13_reach_72 n K60 k S a0 x2 x3 x5 x6 = some (r, S') → rv_Ev mX13_reach 3 72 [(0, .ref a0), (2, .int x2), (3, .int x3), (5, .int x5), (6, .int x6)] [] S (some (.int r)) S' := by
  intro k
  induction k with
  | zero => intro S a0 x2 x3 x5 x6 r S' h; exact absurd h (by simp [cX13_reach_72])
  | succ k ih =>
    intro S a0 x2 x3 x5 x6 r S' h
    unfold cX13_reach_72 at h
    refine re_iload (pc := 72) 4 (by decide +kernel : decode cX13_reach 72 = .ok (.iload 6, 2)) rfl ?_
    refine re_aloadn (pc := 74) 0 (by decide +kernel : decode cX13_reach 74 = .ok (.aload_n 0, 1)) rfl ?_
    obtain ⟨u1_, g2_, h⟩ := rv_b_e h
    obtain ⟨x4_, g5_, h⟩ := rv_b_e h
    have m3_ := metX13_whos n S a0 _ g5_
    refine re_cV (pc := 75) [] m3_ (rv_okl.k ⟨rfl, rfl⟩) (rv_up.rf _ _) (by decide) (rv_ck_e g2_) ⟨by decide, rfl⟩ (Nat.le_of_ble_eq_true rfl) lVX13_255 rfl (by decide +kernel : decode cX13_reach 75 = .ok (.invokevirtual 255, 3)) ?_
    rcases rv_if_e h with ⟨g6_, h⟩ | ⟨g6_, h⟩
    · refine re_icmp_ge_t (pc := 78) 200 (by decide +kernel : decode cX13_reach 78 = .ok (.if_icmp .ge 122, 3)) (by decide) g6_ ?_
      obtain ⟨x7_, g8_, h⟩ := rv_lt_e h
      refine re_iinc (pc := 200) 3 x7_ (lv1 := [(5, .int x7_), (0, .ref a0), (2, .int x2), (3, .int x3), (6, .int x6)]) (by decide +kernel : decode cX13_reach 200 = .ok (.iinc 5 1, 3)) rfl g8_ (by decide) rfl ?_
      refine re_goto (pc := 203) 60 (by decide +kernel : decode cX13_reach 203 = .ok (.goto (-143), 3)) (by decide) ?_
      refine re_sub [1, 2, 3, 0] (lv1 := [(0, .ref a0), (2, .int x2), (3, .int x3), (5, .int x7_)]) rfl ?_
      exact hK60 a0 x2 x3 x7_ S _ _ h
    · refine re_icmp_ge_f (pc := 78) 200 (by decide +kernel : decode cX13_reach 78 = .ok (.if_icmp .ge 122, 3)) (by decide) g6_ ?_
      refine re_aloadn (pc := 81) 0 (by decide +kernel : decode cX13_reach 81 = .ok (.aload_n 0, 1)) rfl ?_
      refine re_aloadn (pc := 82) 0 (by decide +kernel : decode cX13_reach 82 = .ok (.aload_n 0, 1)) rfl ?_
      obtain ⟨a9_, g10_, h⟩ := rv_b_e h
      refine re_gR (pc := 83) g10_ lfX13_66 rfl (by decide +kernel : decode cX13_reach 83 = .ok (.getfield 66, 3)) ?_
      refine re_iload (pc := 86) 3 (by decide +kernel : decode cX13_reach 86 = .ok (.iload 5, 2)) rfl ?_
      obtain ⟨x11_, g12_, h⟩ := rv_b_e h
      refine re_aI (pc := 88) g12_ (by decide +kernel : decode cX13_reach 88 = .ok (.iaload, 1)) ?_
      obtain ⟨u13_, g14_, h⟩ := rv_b_e h
      obtain ⟨S16_, g17_, h⟩ := rv_b_e h
      have m15_ := metX13_uncode n S a0 x11_ _ g17_
      have z18_ : rv_same S S16_ := m15_.sh rfl
      refine re_cV (pc := 89) [.int x11_] m15_ (rv_okl.k z18_) (rv_up.sh z18_) (by decide) (rv_ck_e g14_) ⟨by decide, rfl⟩ (Nat.le_of_ble_eq_true rfl) lVX13_372 rfl (by decide +kernel : decode cX13_reach 89 = .ok (.invokevirtual 372, 3)) ?_
      refine re_aloadn (pc := 92) 0 (by decide +kernel : decode cX13_reach 92 = .ok (.aload_n 0, 1)) rfl ?_
      refine re_iload (pc := 93) 4 (by decide +kernel : decode cX13_reach 93 = .ok (.iload 6, 2)) rfl ?_
      obtain ⟨u19_, g20_, h⟩ := rv_b_e h
      obtain ⟨x22_, g23_, h⟩ := rv_b_e h
      have m21_ := metX13_whyNot n S16_ a0 x6 _ g23_
      refine re_cV (pc := 95) [.int x6] m21_ (rv_okl.k ⟨rfl, rfl⟩) (rv_up.rf _ _) (by decide) (rv_ck_e g20_) ⟨by decide, rfl⟩ (Nat.le_of_ble_eq_true rfl) lVX13_304 rfl (by decide +kernel : decode cX13_reach 95 = .ok (.invokevirtual 304, 3)) ?_
      rcases rv_if_e h with ⟨g24_, h⟩ | ⟨g24_, h⟩
      · refine re_if_eq_t (pc := 98) 104 (by decide +kernel : decode cX13_reach 98 = .ok (.ifCond .eq 6, 3)) (by decide) g24_ ?_
        refine re_aloadn (pc := 104) 0 (by decide +kernel : decode cX13_reach 104 = .ok (.aload_n 0, 1)) rfl ?_
        refine re_iload (pc := 105) 4 (by decide +kernel : decode cX13_reach 105 = .ok (.iload 6, 2)) rfl ?_
        obtain ⟨u25_, g26_, h⟩ := rv_b_e h
        obtain ⟨S28_, g29_, h⟩ := rv_b_e h
        have m27_ := metX13_pass n S16_ a0 x6 _ g29_
        have z30_ : rv_same S16_ S28_ := m27_.sh rfl
        refine re_cV (pc := 107) [.int x6] m27_ (rv_okl.k z30_) (rv_up.sh z30_) (by decide) (rv_ck_e g26_) ⟨by decide, rfl⟩ (Nat.le_of_ble_eq_true rfl) lVX13_301 rfl (by decide +kernel : decode cX13_reach 107 = .ok (.invokevirtual 301, 3)) ?_
        refine re_aloadn (pc := 110) 0 (by decide +kernel : decode cX13_reach 110 = .ok (.aload_n 0, 1)) rfl ?_
        obtain ⟨u31_, g32_, h⟩ := rv_b_e h
        obtain ⟨x34_, g35_, h⟩ := rv_b_e h
        have m33_ := metX13_code n S28_ a0 _ g35_
        refine re_cV (pc := 111) [] m33_ (rv_okl.k ⟨rfl, rfl⟩) (rv_up.rf _ _) (by decide) (rv_ck_e g32_) ⟨by decide, rfl⟩ (Nat.le_of_ble_eq_true rfl) lVX13_366 rfl (by decide +kernel : decode cX13_reach 111 = .ok (.invokevirtual 366, 3)) ?_
        refine re_istore (pc := 114) (lv1 := [(7, .int x34_), (0, .ref a0), (2, .int x2), (3, .int x3), (5, .int x5), (6, .int x6)]) (by decide +kernel : decode cX13_reach 114 = .ok (.istore 7, 2)) (by decide) rfl ?_
        refine re_iload (pc := 116) 0 (by decide +kernel : decode cX13_reach 116 = .ok (.iload 7, 2)) rfl ?_
        refine re_iloadn (pc := 118) 3 (by decide +kernel : decode cX13_reach 118 = .ok (.iload_n 3, 1)) rfl ?_
        rcases rv_if_e h with ⟨g36_, h⟩ | ⟨g36_, h⟩
        · refine re_icmp_ne_f (pc := 119) 136 (by decide +kernel : decode cX13_reach 119 = .ok (.if_icmp .ne 17, 3)) (by decide) g36_ ?_
          refine re_sub [1, 4, 0] (lv1 := [(0, .ref a0), (5, .int x5), (7, .int x34_)]) rfl ?_
          exact eX13_reach_122 n S28_ a0 x5 x34_ _ _ h
        · refine re_icmp_ne_t (pc := 119) 136 (by decide +kernel : decode cX13_reach 119 = .ok (.if_icmp .ne 17, 3)) (by decide) g36_ ?_
          refine re_aloadn (pc := 136) 1 (by decide +kernel : decode cX13_reach 136 = .ok (.aload_n 0, 1)) rfl ?_
          obtain ⟨a37_, g38_, h⟩ := rv_b_e h
          refine re_gR (pc := 137) g38_ lfX13_63 rfl (by decide +kernel : decode cX13_reach 137 = .ok (.getfield 63, 3)) ?_
          refine re_iload (pc := 140) 0 (by decide +kernel : decode cX13_reach 140 = .ok (.iload 7, 2)) rfl ?_
          obtain ⟨x39_, g40_, h⟩ := rv_b_e h
          refine re_aI (pc := 142) g40_ (by decide +kernel : decode cX13_reach 142 = .ok (.iaload, 1)) ?_
          refine re_iconst (pc := 143) (-1 : Int32) (by decide +kernel : decode cX13_reach 143 = .ok (.iconst (-1), 1)) (by decide) ?_
          rcases rv_if_e h with ⟨g41_, h⟩ | ⟨g41_, h⟩
          · refine re_icmp_eq_t (pc := 144) 150 (by decide +kernel : decode cX13_reach 144 = .ok (.if_icmp .eq 6, 3)) (by decide) g41_ ?_
            refine re_aloadn (pc := 150) 1 (by decide +kernel : decode cX13_reach 150 = .ok (.aload_n 0, 1)) rfl ?_
            obtain ⟨a42_, g43_, h⟩ := rv_b_e h
            refine re_gR (pc := 151) g43_ lfX13_63 rfl (by decide +kernel : decode cX13_reach 151 = .ok (.getfield 63, 3)) ?_
            refine re_iload (pc := 154) 0 (by decide +kernel : decode cX13_reach 154 = .ok (.iload 7, 2)) rfl ?_
            refine re_aloadn (pc := 156) 1 (by decide +kernel : decode cX13_reach 156 = .ok (.aload_n 0, 1)) rfl ?_
            obtain ⟨a44_, g45_, h⟩ := rv_b_e h
            refine re_gR (pc := 157) g45_ lfX13_66 rfl (by decide +kernel : decode cX13_reach 157 = .ok (.getfield 66, 3)) ?_
            refine re_iload (pc := 160) 4 (by decide +kernel : decode cX13_reach 160 = .ok (.iload 5, 2)) rfl ?_
            obtain ⟨x46_, g47_, h⟩ := rv_b_e h
            refine re_aI (pc := 162) g47_ (by decide +kernel : decode cX13_reach 162 = .ok (.iaload, 1)) ?_
            obtain ⟨S48_, g49_, h⟩ := rv_b_e h
            refine re_uI (pc := 163) g49_ (by decide +kernel : decode cX13_reach 163 = .ok (.iastore, 1)) ?_
            refine re_aloadn (pc := 164) 1 (by decide +kernel : decode cX13_reach 164 = .ok (.aload_n 0, 1)) rfl ?_
            obtain ⟨a50_, g51_, h⟩ := rv_b_e h
            refine re_gR (pc := 165) g51_ lfX13_66 rfl (by decide +kernel : decode cX13_reach 165 = .ok (.getfield 66, 3)) ?_
            refine re_aloadn (pc := 168) 1 (by decide +kernel : decode cX13_reach 168 = .ok (.aload_n 0, 1)) rfl ?_
            obtain ⟨x52_, g53_, h⟩ := rv_b_e h
            refine re_gI (pc := 169) g53_ lfX13_369 rfl (by decide +kernel : decode cX13_reach 169 = .ok (.getfield 369, 3)) ?_
            refine re_iload (pc := 172) 0 (by decide +kernel : decode cX13_reach 172 = .ok (.iload 7, 2)) rfl ?_
            obtain ⟨S54_, g55_, h⟩ := rv_b_e h
            refine re_uI (pc := 174) g55_ (by decide +kernel : decode cX13_reach 174 = .ok (.iastore, 1)) ?_
            refine re_aloadn (pc := 175) 1 (by decide +kernel : decode cX13_reach 175 = .ok (.aload_n 0, 1)) rfl ?_
            refine re_dup (pc := 176) (by decide +kernel : decode cX13_reach 176 = .ok (.dup, 1)) rfl ?_
            obtain ⟨x56_, g57_, h⟩ := rv_b_e h
            refine re_gI (pc := 177) g57_ lfX13_369 rfl (by decide +kernel : decode cX13_reach 177 = .ok (.getfield 369, 3)) ?_
            refine re_iconst (pc := 180) (1 : Int32) (by decide +kernel : decode cX13_reach 180 = .ok (.iconst 1, 1)) (by decide) ?_
            refine re_iadd (pc := 181) (by decide +kernel : decode cX13_reach 181 = .ok (.iadd, 1)) ?_
            obtain ⟨S58_, g59_, h⟩ := rv_b_e h
            refine re_pI (pc := 182) g59_ lfX13_369 rfl rfl rfl rfl (by decide +kernel : decode cX13_reach 182 = .ok (.putfield 369, 3)) ?_
            refine re_iload (pc := 185) 5 (by decide +kernel : decode cX13_reach 185 = .ok (.iload 6, 2)) rfl ?_
            refine re_iloadn (pc := 187) 2 (by decide +kernel : decode cX13_reach 187 = .ok (.iload_n 2, 1)) rfl ?_
            rcases rv_if_e h with ⟨g60_, h⟩ | ⟨g60_, h⟩
            · refine re_icmp_ne_f (pc := 188) 194 (by decide +kernel : decode cX13_reach 188 = .ok (.if_icmp .ne 6, 3)) (by decide) g60_ ?_
              refine re_iload (pc := 191) 0 (by decide +kernel : decode cX13_reach 191 = .ok (.iload 7, 2)) rfl ?_
              cases h
              exact re_iret (fun ty hty => by cases hty; rfl) (by decide +kernel : decode cX13_reach 193 = .ok (.ireturn, 1))
            · refine re_icmp_ne_t (pc := 188) 194 (by decide +kernel : decode cX13_reach 188 = .ok (.if_icmp .ne 6, 3)) (by decide) g60_ ?_
              obtain ⟨x61_, g62_, h⟩ := rv_lt_e h
              refine re_iinc (pc := 194) 5 x61_ (lv1 := [(6, .int x61_), (7, .int x34_), (0, .ref a0), (2, .int x2), (3, .int x3), (5, .int x5)]) (by decide +kernel : decode cX13_reach 194 = .ok (.iinc 6 1, 3)) rfl g62_ (by decide) rfl ?_
              refine re_goto (pc := 197) 72 (by decide +kernel : decode cX13_reach 197 = .ok (.goto (-125), 3)) (by decide) ?_
              refine re_sub [2, 3, 4, 5, 0] (lv1 := [(0, .ref a0), (2, .int x2), (3, .int x3), (5, .int x5), (6, .int x61_)]) rfl ?_
              exact ih S58_ a0 x2 x3 x5 x61_ _ _ h
          · refine re_icmp_eq_f (pc := 144) 150 (by decide +kernel : decode cX13_reach 144 = .ok (.if_icmp .eq 6, 3)) (by decide) g41_ ?_
            refine re_goto (pc := 147) 194 (by decide +kernel : decode cX13_reach 147 = .ok (.goto 47, 3)) (by decide) ?_
            obtain ⟨x63_, g64_, h⟩ := rv_lt_e h
            refine re_iinc (pc := 194) 5 x63_ (lv1 := [(6, .int x63_), (7, .int x34_), (0, .ref a0), (2, .int x2), (3, .int x3), (5, .int x5)]) (by decide +kernel : decode cX13_reach 194 = .ok (.iinc 6 1, 3)) rfl g64_ (by decide) rfl ?_
            refine re_goto (pc := 197) 72 (by decide +kernel : decode cX13_reach 197 = .ok (.goto (-125), 3)) (by decide) ?_
            refine re_sub [2, 3, 4, 5, 0] (lv1 := [(0, .ref a0), (2, .int x2), (3, .int x3), (5, .int x5), (6, .int x63_)]) rfl ?_
            exact ih S28_ a0 x2 x3 x5 x63_ _ _ h
      · refine re_if_eq_f (pc := 98) 104 (by decide +kernel : decode cX13_reach 98 = .ok (.ifCond .eq 6, 3)) (by decide) g24_ ?_
        refine re_goto (pc := 101) 194 (by decide +kernel : decode cX13_reach 101 = .ok (.goto 93, 3)) (by decide) ?_
        obtain ⟨x65_, g66_, h⟩ := rv_lt_e h
        refine re_iinc (pc := 194) 4 x65_ (lv1 := [(6, .int x65_), (0, .ref a0), (2, .int x2), (3, .int x3), (5, .int x5)]) (by decide +kernel : decode cX13_reach 194 = .ok (.iinc 6 1, 3)) rfl g66_ (by decide) rfl ?_
        refine re_goto (pc := 197) 72 (by decide +kernel : decode cX13_reach 197 = .ok (.goto (-125), 3)) (by decide) ?_
        refine re_sub [1, 2, 3, 4, 0] (lv1 := [(0, .ref a0), (2, .int x2), (3, .int x3), (5, .int x5), (6, .int x65_)]) rfl ?_
        exact ih S16_ a0 x2 x3 x5 x65_ _ _ h
noncomputable def cX13_reach_60 (n : Nat) : Nat → rvS → Nat → Int32 → Int32 → Int32 → Option (Int32 × rvS)
  | 0, _, _, _, _, _ => none
  | k + 1, S, a0, x2, x3, x5 =>
    (rv_gI S 11 a0 35).bind fun x1_ =>
    if x1_ ≤ x5 then (
      some ((-1 : Int32), S))
    else (
      cX13_reach_72 n (fun a0 x2 x3 x5 S => cX13_reach_60 n k S a0 x2 x3 x5) n S a0 x2 x3 x5 (0 : Int32))
set_option maxRecDepth 20000 in
set_option maxHeartbeats 4000000 in
theorem eX13_reach_60 (n : Nat) : ∀ (k : Nat) (S : rvS) (a0 : Nat) (x2 : Int32) (x3 : Int32) (x5 : Int32) (r : Int32) (S' : rvS), cX13_reach_60 n k S a0 x2 x3 x5 = some (r, S') → rv_Ev mX13_reach 3 60 [(0, .ref a0), (2, .int x2), (3, .int x3), (5, .int x5)] [] S (some (.int r)) S' := by
  intro k
  induction k with
  | zero => intro S a0 x2 x3 x5 r S' h; exact absurd h (by simp [cX13_reach_60])
  | succ k ih =>
    intro S a0 x2 x3 x5 r S' h
    unfold cX13_reach_60 at h
    refine re_iload (pc := 60) 3 (by decide +kernel : decode cX13_reach 60 = .ok (.iload 5, 2)) rfl ?_
    refine re_aloadn (pc := 62) 0 (by decide +kernel : decode cX13_reach 62 = .ok (.aload_n 0, 1)) rfl ?_
    obtain ⟨x1_, g2_, h⟩ := rv_b_e h
    refine re_gI (pc := 63) g2_ lfX13_369 rfl (by decide +kernel : decode cX13_reach 63 = .ok (.getfield 369, 3)) ?_
    rcases rv_if_e h with ⟨g3_, h⟩ | ⟨g3_, h⟩
    · refine re_icmp_ge_t (pc := 66) 206 (by decide +kernel : decode cX13_reach 66 = .ok (.if_icmp .ge 140, 3)) (by decide) g3_ ?_
      refine re_iconst (pc := 206) (-1 : Int32) (by decide +kernel : decode cX13_reach 206 = .ok (.iconst (-1), 1)) (by decide) ?_
      cases h
      exact re_iret (fun ty hty => by cases hty; rfl) (by decide +kernel : decode cX13_reach 207 = .ok (.ireturn, 1))
    · refine re_icmp_ge_f (pc := 66) 206 (by decide +kernel : decode cX13_reach 66 = .ok (.if_icmp .ge 140, 3)) (by decide) g3_ ?_
      refine re_iconst (pc := 69) (0 : Int32) (by decide +kernel : decode cX13_reach 69 = .ok (.iconst 0, 1)) (by decide) ?_
      refine re_istore (pc := 70) (lv1 := [(6, .int (0 : Int32)), (0, .ref a0), (2, .int x2), (3, .int x3), (5, .int x5)]) (by decide +kernel : decode cX13_reach 70 = .ok (.istore 6, 2)) (by decide) rfl ?_
      refine re_sub [1, 2, 3, 4, 0] (lv1 := [(0, .ref a0), (2, .int x2), (3, .int x3), (5, .int x5), (6, .int (0 : Int32))]) rfl ?_
      exact eX13_reach_72 n (fun a0 x2 x3 x5 S => cX13_reach_60 n k S a0 x2 x3 x5) (fun a0 x2 x3 x5 S _ _ h => ih S a0 x2 x3 x5 _ _ h) n S a0 x2 x3 x5 (0 : Int32) _ _ h
noncomputable def cX13_reach_24 (n : Nat) (S : rvS) (a0 : Nat) (x1 : Int32) (x2 : Int32) (x3 : Int32) : Option (Int32 × rvS) :=
  (rv_ck S 11 a0).bind fun u1_ =>
  (fnX13_hold n S a0 x1).bind fun S4_ =>
  (rv_ck S4_ 11 a0).bind fun u7_ =>
  (fnX13_code n S4_ a0).bind fun x10_ =>
  (rv_gR S4_ 11 a0 31).bind fun a12_ =>
  (rv_uI S4_ a12_ x10_ x10_).bind fun S14_ =>
  (rv_gR S14_ 11 a0 32).bind fun a16_ =>
  (rv_uI S14_ a16_ (0 : Int32) x10_).bind fun S18_ =>
  (rv_pI S18_ 11 a0 35 (1 : Int32)).bind fun S20_ =>
  cX13_reach_60 n n S20_ a0 x2 x3 (0 : Int32)
set_option maxRecDepth 20000 in
set_option maxHeartbeats 4000000 in
theorem eX13_reach_24 (n : Nat) (S : rvS) (a0 : Nat) (x1 : Int32) (x2 : Int32) (x3 : Int32) (r : Int32) (S' : rvS) (h : cX13_reach_24 n S a0 x1 x2 x3 = some (r, S')) : rv_Ev mX13_reach 3 24 [(0, .ref a0), (1, .int x1), (2, .int x2), (3, .int x3)] [] S (some (.int r)) S' := by
  unfold cX13_reach_24 at h
  refine re_aloadn (pc := 24) 0 (by decide +kernel : decode cX13_reach 24 = .ok (.aload_n 0, 1)) rfl ?_
  refine re_iloadn (pc := 25) 1 (by decide +kernel : decode cX13_reach 25 = .ok (.iload_n 1, 1)) rfl ?_
  obtain ⟨u1_, g2_, h⟩ := rv_b_e h
  obtain ⟨S4_, g5_, h⟩ := rv_b_e h
  have m3_ := metX13_hold n S a0 x1 _ g5_
  have z6_ : rv_same S S4_ := m3_.sh rfl
  refine re_cV (pc := 26) [.int x1] m3_ (rv_okl.k z6_) (rv_up.sh z6_) (by decide) (rv_ck_e g2_) ⟨by decide, rfl⟩ (Nat.le_of_ble_eq_true rfl) lVX13_298 rfl (by decide +kernel : decode cX13_reach 26 = .ok (.invokevirtual 298, 3)) ?_
  refine re_aloadn (pc := 29) 0 (by decide +kernel : decode cX13_reach 29 = .ok (.aload_n 0, 1)) rfl ?_
  obtain ⟨u7_, g8_, h⟩ := rv_b_e h
  obtain ⟨x10_, g11_, h⟩ := rv_b_e h
  have m9_ := metX13_code n S4_ a0 _ g11_
  refine re_cV (pc := 30) [] m9_ (rv_okl.k ⟨rfl, rfl⟩) (rv_up.rf _ _) (by decide) (rv_ck_e g8_) ⟨by decide, rfl⟩ (Nat.le_of_ble_eq_true rfl) lVX13_366 rfl (by decide +kernel : decode cX13_reach 30 = .ok (.invokevirtual 366, 3)) ?_
  refine re_istore (pc := 33) (lv1 := [(4, .int x10_), (0, .ref a0), (1, .int x1), (2, .int x2), (3, .int x3)]) (by decide +kernel : decode cX13_reach 33 = .ok (.istore 4, 2)) (by decide) rfl ?_
  refine re_aloadn (pc := 35) 1 (by decide +kernel : decode cX13_reach 35 = .ok (.aload_n 0, 1)) rfl ?_
  obtain ⟨a12_, g13_, h⟩ := rv_b_e h
  refine re_gR (pc := 36) g13_ lfX13_63 rfl (by decide +kernel : decode cX13_reach 36 = .ok (.getfield 63, 3)) ?_
  refine re_iload (pc := 39) 0 (by decide +kernel : decode cX13_reach 39 = .ok (.iload 4, 2)) rfl ?_
  refine re_iload (pc := 41) 0 (by decide +kernel : decode cX13_reach 41 = .ok (.iload 4, 2)) rfl ?_
  obtain ⟨S14_, g15_, h⟩ := rv_b_e h
  refine re_uI (pc := 43) g15_ (by decide +kernel : decode cX13_reach 43 = .ok (.iastore, 1)) ?_
  refine re_aloadn (pc := 44) 1 (by decide +kernel : decode cX13_reach 44 = .ok (.aload_n 0, 1)) rfl ?_
  obtain ⟨a16_, g17_, h⟩ := rv_b_e h
  refine re_gR (pc := 45) g17_ lfX13_66 rfl (by decide +kernel : decode cX13_reach 45 = .ok (.getfield 66, 3)) ?_
  refine re_iconst (pc := 48) (0 : Int32) (by decide +kernel : decode cX13_reach 48 = .ok (.iconst 0, 1)) (by decide) ?_
  refine re_iload (pc := 49) 0 (by decide +kernel : decode cX13_reach 49 = .ok (.iload 4, 2)) rfl ?_
  obtain ⟨S18_, g19_, h⟩ := rv_b_e h
  refine re_uI (pc := 51) g19_ (by decide +kernel : decode cX13_reach 51 = .ok (.iastore, 1)) ?_
  refine re_aloadn (pc := 52) 1 (by decide +kernel : decode cX13_reach 52 = .ok (.aload_n 0, 1)) rfl ?_
  refine re_iconst (pc := 53) (1 : Int32) (by decide +kernel : decode cX13_reach 53 = .ok (.iconst 1, 1)) (by decide) ?_
  obtain ⟨S20_, g21_, h⟩ := rv_b_e h
  refine re_pI (pc := 54) g21_ lfX13_369 rfl rfl rfl rfl (by decide +kernel : decode cX13_reach 54 = .ok (.putfield 369, 3)) ?_
  refine re_iconst (pc := 57) (0 : Int32) (by decide +kernel : decode cX13_reach 57 = .ok (.iconst 0, 1)) (by decide) ?_
  refine re_istore (pc := 58) (lv1 := [(5, .int (0 : Int32)), (4, .int x10_), (0, .ref a0), (1, .int x1), (2, .int x2), (3, .int x3)]) (by decide +kernel : decode cX13_reach 58 = .ok (.istore 5, 2)) (by decide) rfl ?_
  refine re_sub [2, 4, 5, 0] (lv1 := [(0, .ref a0), (2, .int x2), (3, .int x3), (5, .int (0 : Int32))]) rfl ?_
  exact eX13_reach_60 n n S20_ a0 x2 x3 (0 : Int32) _ _ h
noncomputable def cX13_reach_3 (n : Nat) : Nat → rvS → Nat → Int32 → Int32 → Int32 → Int32 → Option (Int32 × rvS)
  | 0, _, _, _, _, _, _ => none
  | k + 1, S, a0, x1, x2, x3, x4 =>
    if (390625 : Int32) ≤ x4 then (
      cX13_reach_24 n S a0 x1 x2 x3)
    else (
      (rv_gR S 11 a0 31).bind fun a2_ =>
      (rv_uI S a2_ x4 (-1 : Int32)).bind fun S4_ =>
      rv_lt (x4 + (1)) fun x6_ =>
      cX13_reach_3 n k S4_ a0 x1 x2 x3 x6_)
set_option maxRecDepth 20000 in
set_option maxHeartbeats 4000000 in
theorem eX13_reach_3 (n : Nat) : ∀ (k : Nat) (S : rvS) (a0 : Nat) (x1 : Int32) (x2 : Int32) (x3 : Int32) (x4 : Int32) (r : Int32) (S' : rvS), cX13_reach_3 n k S a0 x1 x2 x3 x4 = some (r, S') → rv_Ev mX13_reach 3 3 [(0, .ref a0), (1, .int x1), (2, .int x2), (3, .int x3), (4, .int x4)] [] S (some (.int r)) S' := by
  intro k
  induction k with
  | zero => intro S a0 x1 x2 x3 x4 r S' h; exact absurd h (by simp [cX13_reach_3])
  | succ k ih =>
    intro S a0 x1 x2 x3 x4 r S' h
    unfold cX13_reach_3 at h
    refine re_iload (pc := 3) 4 (by decide +kernel : decode cX13_reach 3 = .ok (.iload 4, 2)) rfl ?_
    refine re_ldc (pc := 5) (v := 390625) (rw6 233 (by decide +kernel) rfl) (by decide +kernel : decode cX13_reach 5 = .ok (.ldc 62, 2)) ?_
    rcases rv_if_e h with ⟨g1_, h⟩ | ⟨g1_, h⟩
    · refine re_icmp_ge_t (pc := 7) 24 (by decide +kernel : decode cX13_reach 7 = .ok (.if_icmp .ge 17, 3)) (by decide) g1_ ?_
      refine re_sub [0, 1, 2, 3] (lv1 := [(0, .ref a0), (1, .int x1), (2, .int x2), (3, .int x3)]) rfl ?_
      exact eX13_reach_24 n S a0 x1 x2 x3 _ _ h
    · refine re_icmp_ge_f (pc := 7) 24 (by decide +kernel : decode cX13_reach 7 = .ok (.if_icmp .ge 17, 3)) (by decide) g1_ ?_
      refine re_aloadn (pc := 10) 0 (by decide +kernel : decode cX13_reach 10 = .ok (.aload_n 0, 1)) rfl ?_
      obtain ⟨a2_, g3_, h⟩ := rv_b_e h
      refine re_gR (pc := 11) g3_ lfX13_63 rfl (by decide +kernel : decode cX13_reach 11 = .ok (.getfield 63, 3)) ?_
      refine re_iload (pc := 14) 4 (by decide +kernel : decode cX13_reach 14 = .ok (.iload 4, 2)) rfl ?_
      refine re_iconst (pc := 16) (-1 : Int32) (by decide +kernel : decode cX13_reach 16 = .ok (.iconst (-1), 1)) (by decide) ?_
      obtain ⟨S4_, g5_, h⟩ := rv_b_e h
      refine re_uI (pc := 17) g5_ (by decide +kernel : decode cX13_reach 17 = .ok (.iastore, 1)) ?_
      obtain ⟨x6_, g7_, h⟩ := rv_lt_e h
      refine re_iinc (pc := 18) 4 x6_ (lv1 := [(4, .int x6_), (0, .ref a0), (1, .int x1), (2, .int x2), (3, .int x3)]) (by decide +kernel : decode cX13_reach 18 = .ok (.iinc 4 1, 3)) rfl g7_ (by decide) rfl ?_
      refine re_goto (pc := 21) 3 (by decide +kernel : decode cX13_reach 21 = .ok (.goto (-18), 3)) (by decide) ?_
      refine re_sub [1, 2, 3, 4, 0] (lv1 := [(0, .ref a0), (1, .int x1), (2, .int x2), (3, .int x3), (4, .int x6_)]) rfl ?_
      exact ih S4_ a0 x1 x2 x3 x6_ _ _ h
noncomputable def fnX13_reach (n : Nat) (S : rvS) (a0 : Nat) (x1 : Int32) (x2 : Int32) (x3 : Int32) : Option (Int32 × rvS) :=
  cX13_reach_3 n n S a0 x1 x2 x3 (0 : Int32)
set_option maxRecDepth 20000 in
set_option maxHeartbeats 4000000 in
theorem eX13_reach_in (n : Nat) (S : rvS) (a0 : Nat) (x1 : Int32) (x2 : Int32) (x3 : Int32) (r : Int32) (S' : rvS) (h : fnX13_reach n S a0 x1 x2 x3 = some (r, S')) : rv_Ev mX13_reach 3 0 [(0, .ref a0), (1, .int x1), (2, .int x2), (3, .int x3)] [] S (some (.int r)) S' := by
  unfold fnX13_reach at h
  refine re_iconst (pc := 0) (0 : Int32) (by decide +kernel : decode cX13_reach 0 = .ok (.iconst 0, 1)) (by decide) ?_
  refine re_istore (pc := 1) (lv1 := [(4, .int (0 : Int32)), (0, .ref a0), (1, .int x1), (2, .int x2), (3, .int x3)]) (by decide +kernel : decode cX13_reach 1 = .ok (.istore 4, 2)) (by decide) rfl ?_
  refine re_sub [1, 2, 3, 4, 0] (lv1 := [(0, .ref a0), (1, .int x1), (2, .int x2), (3, .int x3), (4, .int (0 : Int32))]) rfl ?_
  exact eX13_reach_3 n n S a0 x1 x2 x3 (0 : Int32) _ _ h
theorem metX13_reach (n : Nat) (S : rvS) (a0 : Nat) (x1 : Int32) (x2 : Int32) (x3 : Int32) (r : Int32) (S' : rvS) (h : fnX13_reach n S a0 x1 x2 x3 = some (r, S')) : rv_Met yX13_reach mX13_reach 3 [.ref a0, .int x1, .int x2, .int x3] S (some (.int r)) S' := rv_Met.of ⟨by decide +kernel, rfl, (fun z => by first | rfl | cases z), rfl⟩ (Nat.le_of_ble_eq_true rfl) rfl (eX13_reach_in n S a0 x1 x2 x3 r S' h)
noncomputable def fnX13_ownerOf (n : Nat) (S : rvS) (a0 : Nat) (x1 : Int32) : Option Int32 :=
  (rv_nz (15625 : Int32)).bind fun u1_ =>
  some (x1 / (15625 : Int32))
set_option maxRecDepth 20000 in
set_option maxHeartbeats 4000000 in
theorem eX13_ownerOf_in (n : Nat) (S : rvS) (a0 : Nat) (x1 : Int32) (r : Int32) (h : fnX13_ownerOf n S a0 x1 = some r) : rv_Ev mX13_ownerOf 0 0 [(0, .ref a0), (1, .int x1)] [] S (some (.int r)) S := by
  unfold fnX13_ownerOf at h
  refine re_iloadn (pc := 0) 1 (by decide +kernel : decode cX13_ownerOf 0 = .ok (.iload_n 1, 1)) rfl ?_
  refine re_sipush (pc := 1) (15625 : Int32) (by decide +kernel : decode cX13_ownerOf 1 = .ok (.sipush 15625, 3)) (by decide) ?_
  obtain ⟨u1_, g2_, h⟩ := rv_b_e h
  refine re_idiv (pc := 4) (by decide +kernel : decode cX13_ownerOf 4 = .ok (.idiv, 1)) (rv_nz_e g2_) ?_
  cases h
  exact re_iret (fun ty hty => by cases hty; rfl) (by decide +kernel : decode cX13_ownerOf 5 = .ok (.ireturn, 1))
theorem metX13_ownerOf (n : Nat) (S : rvS) (a0 : Nat) (x1 : Int32) (r : Int32) (h : fnX13_ownerOf n S a0 x1 = some r) : rv_Met yX13_ownerOf mX13_ownerOf 0 [.ref a0, .int x1] S (some (.int r)) S := rv_Met.of ⟨by decide +kernel, rfl, (fun z => by first | rfl | cases z), rfl⟩ (Nat.le_of_ble_eq_true rfl) rfl (eX13_ownerOf_in n S a0 x1 r h)
noncomputable def cX13_hands_130 (n : Nat) (K94 : Nat → Int32 → Int32 → Int32 → rvS → Option (Int32 × rvS)) (S : rvS) (a0 : Nat) (x3 : Int32) (x5 : Int32) (x6 : Int32) : Option (Int32 × rvS) :=
  (rv_gR S 11 a0 31).bind fun a1_ =>
  (rv_aI S 0 a1_ x6).bind fun x3_ =>
  K94 a0 x3 x5 x3_ S
set_option maxRecDepth 20000 in
set_option maxHeartbeats 4000000 in
theorem eX13_hands_130 (n : Nat) (K94 : Nat → Int32 → Int32 → Int32 → rvS → Option (Int32 × rvS)) (hK94 : ∀ (a0 : Nat) (x3 : Int32) (x5 : Int32) (x6 : Int32) (S : rvS) (r : Int32) (S' : rvS), K94 a0 x3 x5 x6 S = some (r, S') → rv_Ev mX13_hands 4 94 [(0, .ref a0), (3, .int x3), (5, .int x5), (6, .int x6)] [] S (some (.int r)) S') (S : rvS) (a0 : Nat) (x3 : Int32) (x5 : Int32) (x6 : Int32) (r : Int32) (S' : rvS) (h : cX13_hands_130 n K94 S a0 x3 x5 x6 = some (r, S')) : rv_Ev mX13_hands 4 130 [(0, .ref a0), (3, .int x3), (5, .int x5), (6, .int x6)] [] S (some (.int r)) S' := by
  unfold cX13_hands_130 at h
  refine re_aloadn (pc := 130) 0 (by decide +kernel : decode cX13_hands 130 = .ok (.aload_n 0, 1)) rfl ?_
  obtain ⟨a1_, g2_, h⟩ := rv_b_e h
  refine re_gR (pc := 131) g2_ lfX13_63 rfl (by decide +kernel : decode cX13_hands 131 = .ok (.getfield 63, 3)) ?_
  refine re_iload (pc := 134) 3 (by decide +kernel : decode cX13_hands 134 = .ok (.iload 6, 2)) rfl ?_
  obtain ⟨x3_, g4_, h⟩ := rv_b_e h
  refine re_aI (pc := 136) g4_ (by decide +kernel : decode cX13_hands 136 = .ok (.iaload, 1)) ?_
  refine re_istore (pc := 137) (lv1 := [(6, .int x3_), (0, .ref a0), (3, .int x3), (5, .int x5)]) (by decide +kernel : decode cX13_hands 137 = .ok (.istore 6, 2)) (by decide) rfl ?_
  refine re_goto (pc := 139) 94 (by decide +kernel : decode cX13_hands 139 = .ok (.goto (-45), 3)) (by decide) ?_
  refine re_sub [1, 2, 3, 0] (lv1 := [(0, .ref a0), (3, .int x3), (5, .int x5), (6, .int x3_)]) rfl ?_
  exact hK94 a0 x3 x5 x3_ S _ _ h
noncomputable def cX13_hands_94 (n : Nat) : Nat → rvS → Nat → Int32 → Int32 → Int32 → Option (Int32 × rvS)
  | 0, _, _, _, _, _ => none
  | k + 1, S, a0, x3, x5, x6 =>
    (rv_gR S 11 a0 31).bind fun a1_ =>
    (rv_aI S 0 a1_ x6).bind fun x3_ =>
    if x3_ = x6 then (
      (rv_pI S 11 a0 36 x3).bind fun S6_ =>
      some (x3, S6_))
    else (
      rv_lt (x5 + (-1)) fun x8_ =>
      if (2000 : Int32) ≤ x8_ then (
        cX13_hands_130 n (fun a0 x3 x5 x6 S => cX13_hands_94 n k S a0 x3 x5 x6) S a0 x3 x8_ x6)
      else (
        (rv_gR S 11 a0 34).bind fun a11_ =>
        (rv_ck S 11 a0).bind fun u13_ =>
        (fnX13_ownerOf n S a0 x6).bind fun x16_ =>
        (rv_uI S a11_ x8_ x16_).bind fun S18_ =>
        cX13_hands_130 n (fun a0 x3 x5 x6 S => cX13_hands_94 n k S a0 x3 x5 x6) S18_ a0 x3 x8_ x6))
set_option maxRecDepth 20000 in
set_option maxHeartbeats 4000000 in
theorem eX13_hands_94 (n : Nat) : ∀ (k : Nat) (S : rvS) (a0 : Nat) (x3 : Int32) (x5 : Int32) (x6 : Int32) (r : Int32) (S' : rvS), cX13_hands_94 n k S a0 x3 x5 x6 = some (r, S') → rv_Ev mX13_hands 4 94 [(0, .ref a0), (3, .int x3), (5, .int x5), (6, .int x6)] [] S (some (.int r)) S' := by
  intro k
  induction k with
  | zero => intro S a0 x3 x5 x6 r S' h; exact absurd h (by simp [cX13_hands_94])
  | succ k ih =>
    intro S a0 x3 x5 x6 r S' h
    unfold cX13_hands_94 at h
    refine re_aloadn (pc := 94) 0 (by decide +kernel : decode cX13_hands 94 = .ok (.aload_n 0, 1)) rfl ?_
    obtain ⟨a1_, g2_, h⟩ := rv_b_e h
    refine re_gR (pc := 95) g2_ lfX13_63 rfl (by decide +kernel : decode cX13_hands 95 = .ok (.getfield 63, 3)) ?_
    refine re_iload (pc := 98) 3 (by decide +kernel : decode cX13_hands 98 = .ok (.iload 6, 2)) rfl ?_
    obtain ⟨x3_, g4_, h⟩ := rv_b_e h
    refine re_aI (pc := 100) g4_ (by decide +kernel : decode cX13_hands 100 = .ok (.iaload, 1)) ?_
    refine re_iload (pc := 101) 3 (by decide +kernel : decode cX13_hands 101 = .ok (.iload 6, 2)) rfl ?_
    rcases rv_if_e h with ⟨g5_, h⟩ | ⟨g5_, h⟩
    · refine re_icmp_eq_t (pc := 103) 142 (by decide +kernel : decode cX13_hands 103 = .ok (.if_icmp .eq 39, 3)) (by decide) g5_ ?_
      refine re_aloadn (pc := 142) 0 (by decide +kernel : decode cX13_hands 142 = .ok (.aload_n 0, 1)) rfl ?_
      refine re_iloadn (pc := 143) 1 (by decide +kernel : decode cX13_hands 143 = .ok (.iload_n 3, 1)) rfl ?_
      obtain ⟨S6_, g7_, h⟩ := rv_b_e h
      refine re_pI (pc := 144) g7_ lfX13_384 rfl rfl rfl rfl (by decide +kernel : decode cX13_hands 144 = .ok (.putfield 384, 3)) ?_
      refine re_iloadn (pc := 147) 1 (by decide +kernel : decode cX13_hands 147 = .ok (.iload_n 3, 1)) rfl ?_
      cases h
      exact re_iret (fun ty hty => by cases hty; rfl) (by decide +kernel : decode cX13_hands 148 = .ok (.ireturn, 1))
    · refine re_icmp_eq_f (pc := 103) 142 (by decide +kernel : decode cX13_hands 103 = .ok (.if_icmp .eq 39, 3)) (by decide) g5_ ?_
      obtain ⟨x8_, g9_, h⟩ := rv_lt_e h
      refine re_iinc (pc := 106) 2 x8_ (lv1 := [(5, .int x8_), (0, .ref a0), (3, .int x3), (6, .int x6)]) (by decide +kernel : decode cX13_hands 106 = .ok (.iinc 5 (-1), 3)) rfl g9_ (by decide) rfl ?_
      refine re_iload (pc := 109) 0 (by decide +kernel : decode cX13_hands 109 = .ok (.iload 5, 2)) rfl ?_
      refine re_sipush (pc := 111) (2000 : Int32) (by decide +kernel : decode cX13_hands 111 = .ok (.sipush 2000, 3)) (by decide) ?_
      rcases rv_if_e h with ⟨g10_, h⟩ | ⟨g10_, h⟩
      · refine re_icmp_ge_t (pc := 114) 130 (by decide +kernel : decode cX13_hands 114 = .ok (.if_icmp .ge 16, 3)) (by decide) g10_ ?_
        refine re_sub [1, 2, 0, 3] (lv1 := [(0, .ref a0), (3, .int x3), (5, .int x8_), (6, .int x6)]) rfl ?_
        exact eX13_hands_130 n (fun a0 x3 x5 x6 S => cX13_hands_94 n k S a0 x3 x5 x6) (fun a0 x3 x5 x6 S _ _ h => ih S a0 x3 x5 x6 _ _ h) S a0 x3 x8_ x6 _ _ h
      · refine re_icmp_ge_f (pc := 114) 130 (by decide +kernel : decode cX13_hands 114 = .ok (.if_icmp .ge 16, 3)) (by decide) g10_ ?_
        refine re_aloadn (pc := 117) 1 (by decide +kernel : decode cX13_hands 117 = .ok (.aload_n 0, 1)) rfl ?_
        obtain ⟨a11_, g12_, h⟩ := rv_b_e h
        refine re_gR (pc := 118) g12_ lfX13_72 rfl (by decide +kernel : decode cX13_hands 118 = .ok (.getfield 72, 3)) ?_
        refine re_iload (pc := 121) 0 (by decide +kernel : decode cX13_hands 121 = .ok (.iload 5, 2)) rfl ?_
        refine re_aloadn (pc := 123) 1 (by decide +kernel : decode cX13_hands 123 = .ok (.aload_n 0, 1)) rfl ?_
        refine re_iload (pc := 124) 3 (by decide +kernel : decode cX13_hands 124 = .ok (.iload 6, 2)) rfl ?_
        obtain ⟨u13_, g14_, h⟩ := rv_b_e h
        obtain ⟨x16_, g17_, h⟩ := rv_b_e h
        have m15_ := metX13_ownerOf n S a0 x6 _ g17_
        refine re_cV (pc := 126) [.int x6] m15_ (rv_okl.k ⟨rfl, rfl⟩) (rv_up.rf _ _) (by decide) (rv_ck_e g14_) ⟨by decide, rfl⟩ (Nat.le_of_ble_eq_true rfl) lVX13_381 rfl (by decide +kernel : decode cX13_hands 126 = .ok (.invokevirtual 381, 3)) ?_
        obtain ⟨S18_, g19_, h⟩ := rv_b_e h
        refine re_uI (pc := 129) g19_ (by decide +kernel : decode cX13_hands 129 = .ok (.iastore, 1)) ?_
        refine re_sub [1, 2, 0, 3] (lv1 := [(0, .ref a0), (3, .int x3), (5, .int x8_), (6, .int x6)]) rfl ?_
        exact eX13_hands_130 n (fun a0 x3 x5 x6 S => cX13_hands_94 n k S a0 x3 x5 x6) (fun a0 x3 x5 x6 S _ _ h => ih S a0 x3 x5 x6 _ _ h) S18_ a0 x3 x8_ x6 _ _ h
noncomputable def cX13_hands_60 (n : Nat) : Nat → rvS → Nat → Int32 → Int32 → Int32 → Option (Int32 × rvS)
  | 0, _, _, _, _, _ => none
  | k + 1, S, a0, x3, x4, x5 =>
    (rv_gR S 11 a0 31).bind fun a1_ =>
    (rv_aI S 0 a1_ x5).bind fun x3_ =>
    if x3_ = x5 then (
      cX13_hands_94 n n S a0 x3 x3 x4)
    else (
      rv_lt (x3 + (1)) fun x6_ =>
      (rv_gR S 11 a0 31).bind fun a8_ =>
      (rv_aI S 0 a8_ x5).bind fun x10_ =>
      cX13_hands_60 n k S a0 x6_ x4 x10_)
set_option maxRecDepth 20000 in
set_option maxHeartbeats 4000000 in
theorem eX13_hands_60 (n : Nat) : ∀ (k : Nat) (S : rvS) (a0 : Nat) (x3 : Int32) (x4 : Int32) (x5 : Int32) (r : Int32) (S' : rvS), cX13_hands_60 n k S a0 x3 x4 x5 = some (r, S') → rv_Ev mX13_hands 4 60 [(0, .ref a0), (3, .int x3), (4, .int x4), (5, .int x5)] [] S (some (.int r)) S' := by
  intro k
  induction k with
  | zero => intro S a0 x3 x4 x5 r S' h; exact absurd h (by simp [cX13_hands_60])
  | succ k ih =>
    intro S a0 x3 x4 x5 r S' h
    unfold cX13_hands_60 at h
    refine re_aloadn (pc := 60) 0 (by decide +kernel : decode cX13_hands 60 = .ok (.aload_n 0, 1)) rfl ?_
    obtain ⟨a1_, g2_, h⟩ := rv_b_e h
    refine re_gR (pc := 61) g2_ lfX13_63 rfl (by decide +kernel : decode cX13_hands 61 = .ok (.getfield 63, 3)) ?_
    refine re_iload (pc := 64) 3 (by decide +kernel : decode cX13_hands 64 = .ok (.iload 5, 2)) rfl ?_
    obtain ⟨x3_, g4_, h⟩ := rv_b_e h
    refine re_aI (pc := 66) g4_ (by decide +kernel : decode cX13_hands 66 = .ok (.iaload, 1)) ?_
    refine re_iload (pc := 67) 3 (by decide +kernel : decode cX13_hands 67 = .ok (.iload 5, 2)) rfl ?_
    rcases rv_if_e h with ⟨g5_, h⟩ | ⟨g5_, h⟩
    · refine re_icmp_eq_t (pc := 69) 87 (by decide +kernel : decode cX13_hands 69 = .ok (.if_icmp .eq 18, 3)) (by decide) g5_ ?_
      refine re_iloadn (pc := 87) 1 (by decide +kernel : decode cX13_hands 87 = .ok (.iload_n 3, 1)) rfl ?_
      refine re_istore (pc := 88) (lv1 := [(5, .int x3), (0, .ref a0), (3, .int x3), (4, .int x4)]) (by decide +kernel : decode cX13_hands 88 = .ok (.istore 5, 2)) (by decide) rfl ?_
      refine re_iload (pc := 90) 3 (by decide +kernel : decode cX13_hands 90 = .ok (.iload 4, 2)) rfl ?_
      refine re_istore (pc := 92) (lv1 := [(6, .int x4), (5, .int x3), (0, .ref a0), (3, .int x3), (4, .int x4)]) (by decide +kernel : decode cX13_hands 92 = .ok (.istore 6, 2)) (by decide) rfl ?_
      refine re_sub [2, 3, 1, 0] (lv1 := [(0, .ref a0), (3, .int x3), (5, .int x3), (6, .int x4)]) rfl ?_
      exact eX13_hands_94 n n S a0 x3 x3 x4 _ _ h
    · refine re_icmp_eq_f (pc := 69) 87 (by decide +kernel : decode cX13_hands 69 = .ok (.if_icmp .eq 18, 3)) (by decide) g5_ ?_
      obtain ⟨x6_, g7_, h⟩ := rv_lt_e h
      refine re_iinc (pc := 72) 1 x6_ (lv1 := [(3, .int x6_), (0, .ref a0), (4, .int x4), (5, .int x5)]) (by decide +kernel : decode cX13_hands 72 = .ok (.iinc 3 1, 3)) rfl g7_ (by decide) rfl ?_
      refine re_aloadn (pc := 75) 1 (by decide +kernel : decode cX13_hands 75 = .ok (.aload_n 0, 1)) rfl ?_
      obtain ⟨a8_, g9_, h⟩ := rv_b_e h
      refine re_gR (pc := 76) g9_ lfX13_63 rfl (by decide +kernel : decode cX13_hands 76 = .ok (.getfield 63, 3)) ?_
      refine re_iload (pc := 79) 3 (by decide +kernel : decode cX13_hands 79 = .ok (.iload 5, 2)) rfl ?_
      obtain ⟨x10_, g11_, h⟩ := rv_b_e h
      refine re_aI (pc := 81) g11_ (by decide +kernel : decode cX13_hands 81 = .ok (.iaload, 1)) ?_
      refine re_istore (pc := 82) (lv1 := [(5, .int x10_), (3, .int x6_), (0, .ref a0), (4, .int x4)]) (by decide +kernel : decode cX13_hands 82 = .ok (.istore 5, 2)) (by decide) rfl ?_
      refine re_goto (pc := 84) 60 (by decide +kernel : decode cX13_hands 84 = .ok (.goto (-24), 3)) (by decide) ?_
      refine re_sub [2, 1, 3, 0] (lv1 := [(0, .ref a0), (3, .int x6_), (4, .int x4), (5, .int x10_)]) rfl ?_
      exact ih S a0 x6_ x4 x10_ _ _ h
noncomputable def fnX13_hands (n : Nat) (S : rvS) (a0 : Nat) (x1 : Int32) (x2 : Int32) : Option (Int32 × rvS) :=
  (rv_pI S 11 a0 0 (0 : Int32)).bind fun S1_ =>
  (rv_ck S1_ 11 a0).bind fun u3_ =>
  (fnX13_lay n S1_ a0).bind fun S6_ =>
  (rv_ck S6_ 11 a0).bind fun u9_ =>
  (fnX13_isCoin n S6_ a0 x1).bind fun x12_ =>
  if x12_ = 0 then (
    some ((-1 : Int32), S6_))
  else (
    (rv_ck S6_ 11 a0).bind fun u15_ =>
    (fnX13_isWho n S6_ a0 x2).bind fun x18_ =>
    if x18_ = 0 then (
      some ((-1 : Int32), S6_))
    else (
      (rv_ck S6_ 11 a0).bind fun u21_ =>
      (fnX13_ofCoin n S6_ a0 x1 (1 : Int32)).bind fun x24_ =>
      if x24_ = x2 then (
        (rv_pI S6_ 11 a0 36 (0 : Int32)).bind fun S27_ =>
        some ((0 : Int32), S27_))
      else (
        (rv_ck S6_ 11 a0).bind fun u29_ =>
        rv_bp (fnX13_reach n S6_ a0 x1 x2 (-1 : Int32)) fun x32_ S33_ =>
        if x32_ = (-1 : Int32) then (
          some ((-1 : Int32), S33_))
        else (
          cX13_hands_60 n n S33_ a0 (0 : Int32) x32_ x32_))))
set_option maxRecDepth 20000 in
set_option maxHeartbeats 4000000 in
theorem eX13_hands_in (n : Nat) (S : rvS) (a0 : Nat) (x1 : Int32) (x2 : Int32) (r : Int32) (S' : rvS) (h : fnX13_hands n S a0 x1 x2 = some (r, S')) : rv_Ev mX13_hands 4 0 [(0, .ref a0), (1, .int x1), (2, .int x2)] [] S (some (.int r)) S' := by
  unfold fnX13_hands at h
  refine re_aloadn (pc := 0) 0 (by decide +kernel : decode cX13_hands 0 = .ok (.aload_n 0, 1)) rfl ?_
  refine re_iconst (pc := 1) (0 : Int32) (by decide +kernel : decode cX13_hands 1 = .ok (.iconst 0, 1)) (by decide) ?_
  obtain ⟨S1_, g2_, h⟩ := rv_b_e h
  refine re_pI (pc := 2) g2_ lfX13_99 rfl rfl rfl rfl (by decide +kernel : decode cX13_hands 2 = .ok (.putfield 99, 3)) ?_
  refine re_aloadn (pc := 5) 0 (by decide +kernel : decode cX13_hands 5 = .ok (.aload_n 0, 1)) rfl ?_
  obtain ⟨u3_, g4_, h⟩ := rv_b_e h
  obtain ⟨S6_, g7_, h⟩ := rv_b_e h
  have m5_ := metX13_lay n S1_ a0 _ g7_
  have z8_ : rv_same S1_ S6_ := m5_.sh rfl
  refine re_cV (pc := 6) [] m5_ (rv_okl.k z8_) (rv_up.sh z8_) (by decide) (rv_ck_e g4_) ⟨by decide, rfl⟩ (Nat.le_of_ble_eq_true rfl) lVX13_187 rfl (by decide +kernel : decode cX13_hands 6 = .ok (.invokevirtual 187, 3)) ?_
  refine re_aloadn (pc := 9) 0 (by decide +kernel : decode cX13_hands 9 = .ok (.aload_n 0, 1)) rfl ?_
  refine re_iloadn (pc := 10) 1 (by decide +kernel : decode cX13_hands 10 = .ok (.iload_n 1, 1)) rfl ?_
  obtain ⟨u9_, g10_, h⟩ := rv_b_e h
  obtain ⟨x12_, g13_, h⟩ := rv_b_e h
  have m11_ := metX13_isCoin n S6_ a0 x1 _ g13_
  refine re_cV (pc := 11) [.int x1] m11_ (rv_okl.k ⟨rfl, rfl⟩) (rv_up.rf _ _) (by decide) (rv_ck_e g10_) ⟨by decide, rfl⟩ (Nat.le_of_ble_eq_true rfl) lVX13_277 rfl (by decide +kernel : decode cX13_hands 11 = .ok (.invokevirtual 277, 3)) ?_
  rcases rv_if_e h with ⟨g14_, h⟩ | ⟨g14_, h⟩
  · refine re_if_eq_t (pc := 14) 25 (by decide +kernel : decode cX13_hands 14 = .ok (.ifCond .eq 11, 3)) (by decide) g14_ ?_
    refine re_iconst (pc := 25) (-1 : Int32) (by decide +kernel : decode cX13_hands 25 = .ok (.iconst (-1), 1)) (by decide) ?_
    cases h
    exact re_iret (fun ty hty => by cases hty; rfl) (by decide +kernel : decode cX13_hands 26 = .ok (.ireturn, 1))
  · refine re_if_eq_f (pc := 14) 25 (by decide +kernel : decode cX13_hands 14 = .ok (.ifCond .eq 11, 3)) (by decide) g14_ ?_
    refine re_aloadn (pc := 17) 0 (by decide +kernel : decode cX13_hands 17 = .ok (.aload_n 0, 1)) rfl ?_
    refine re_iloadn (pc := 18) 2 (by decide +kernel : decode cX13_hands 18 = .ok (.iload_n 2, 1)) rfl ?_
    obtain ⟨u15_, g16_, h⟩ := rv_b_e h
    obtain ⟨x18_, g19_, h⟩ := rv_b_e h
    have m17_ := metX13_isWho n S6_ a0 x2 _ g19_
    refine re_cV (pc := 19) [.int x2] m17_ (rv_okl.k ⟨rfl, rfl⟩) (rv_up.rf _ _) (by decide) (rv_ck_e g16_) ⟨by decide, rfl⟩ (Nat.le_of_ble_eq_true rfl) lVX13_265 rfl (by decide +kernel : decode cX13_hands 19 = .ok (.invokevirtual 265, 3)) ?_
    rcases rv_if_e h with ⟨g20_, h⟩ | ⟨g20_, h⟩
    · refine re_if_ne_f (pc := 22) 27 (by decide +kernel : decode cX13_hands 22 = .ok (.ifCond .ne 5, 3)) (by decide) g20_ ?_
      refine re_iconst (pc := 25) (-1 : Int32) (by decide +kernel : decode cX13_hands 25 = .ok (.iconst (-1), 1)) (by decide) ?_
      cases h
      exact re_iret (fun ty hty => by cases hty; rfl) (by decide +kernel : decode cX13_hands 26 = .ok (.ireturn, 1))
    · refine re_if_ne_t (pc := 22) 27 (by decide +kernel : decode cX13_hands 22 = .ok (.ifCond .ne 5, 3)) (by decide) g20_ ?_
      refine re_iconst (pc := 27) (0 : Int32) (by decide +kernel : decode cX13_hands 27 = .ok (.iconst 0, 1)) (by decide) ?_
      refine re_istoren (pc := 28) (lv1 := [(3, .int (0 : Int32)), (0, .ref a0), (1, .int x1), (2, .int x2)]) (by decide +kernel : decode cX13_hands 28 = .ok (.istore_n 3, 1)) rfl (by decide) rfl ?_
      refine re_aloadn (pc := 29) 1 (by decide +kernel : decode cX13_hands 29 = .ok (.aload_n 0, 1)) rfl ?_
      refine re_iloadn (pc := 30) 2 (by decide +kernel : decode cX13_hands 30 = .ok (.iload_n 1, 1)) rfl ?_
      refine re_iconst (pc := 31) (1 : Int32) (by decide +kernel : decode cX13_hands 31 = .ok (.iconst 1, 1)) (by decide) ?_
      obtain ⟨u21_, g22_, h⟩ := rv_b_e h
      obtain ⟨x24_, g25_, h⟩ := rv_b_e h
      have m23_ := metX13_ofCoin n S6_ a0 x1 (1 : Int32) _ g25_
      refine re_cV (pc := 32) [.int x1, .int (1 : Int32)] m23_ (rv_okl.k ⟨rfl, rfl⟩) (rv_up.rf _ _) (by decide) (rv_ck_e g22_) ⟨by decide, rfl⟩ (Nat.le_of_ble_eq_true rfl) lVX13_271 rfl (by decide +kernel : decode cX13_hands 32 = .ok (.invokevirtual 271, 3)) ?_
      refine re_iloadn (pc := 35) 3 (by decide +kernel : decode cX13_hands 35 = .ok (.iload_n 2, 1)) rfl ?_
      rcases rv_if_e h with ⟨g26_, h⟩ | ⟨g26_, h⟩
      · refine re_icmp_eq_t (pc := 36) 142 (by decide +kernel : decode cX13_hands 36 = .ok (.if_icmp .eq 106, 3)) (by decide) g26_ ?_
        refine re_aloadn (pc := 142) 1 (by decide +kernel : decode cX13_hands 142 = .ok (.aload_n 0, 1)) rfl ?_
        refine re_iloadn (pc := 143) 0 (by decide +kernel : decode cX13_hands 143 = .ok (.iload_n 3, 1)) rfl ?_
        obtain ⟨S27_, g28_, h⟩ := rv_b_e h
        refine re_pI (pc := 144) g28_ lfX13_384 rfl rfl rfl rfl (by decide +kernel : decode cX13_hands 144 = .ok (.putfield 384, 3)) ?_
        refine re_iloadn (pc := 147) 0 (by decide +kernel : decode cX13_hands 147 = .ok (.iload_n 3, 1)) rfl ?_
        cases h
        exact re_iret (fun ty hty => by cases hty; rfl) (by decide +kernel : decode cX13_hands 148 = .ok (.ireturn, 1))
      · refine re_icmp_eq_f (pc := 36) 142 (by decide +kernel : decode cX13_hands 36 = .ok (.if_icmp .eq 106, 3)) (by decide) g26_ ?_
        refine re_aloadn (pc := 39) 1 (by decide +kernel : decode cX13_hands 39 = .ok (.aload_n 0, 1)) rfl ?_
        refine re_iloadn (pc := 40) 2 (by decide +kernel : decode cX13_hands 40 = .ok (.iload_n 1, 1)) rfl ?_
        refine re_iloadn (pc := 41) 3 (by decide +kernel : decode cX13_hands 41 = .ok (.iload_n 2, 1)) rfl ?_
        refine re_iconst (pc := 42) (-1 : Int32) (by decide +kernel : decode cX13_hands 42 = .ok (.iconst (-1), 1)) (by decide) ?_
        obtain ⟨u29_, g30_, h⟩ := rv_b_e h
        obtain ⟨x32_, S33_, g34_, h⟩ := rv_bp_e h
        have m31_ := metX13_reach n S6_ a0 x1 x2 (-1 : Int32) _ _ g34_
        have z35_ : rv_same S6_ S33_ := m31_.sh rfl
        refine re_cV (pc := 43) [.int x1, .int x2, .int (-1 : Int32)] m31_ (rv_okl.k z35_) (rv_up.sh z35_) (by decide) (rv_ck_e g30_) ⟨by decide, rfl⟩ (Nat.le_of_ble_eq_true rfl) lVX13_378 rfl (by decide +kernel : decode cX13_hands 43 = .ok (.invokevirtual 378, 3)) ?_
        refine re_istore (pc := 46) (lv1 := [(4, .int x32_), (3, .int (0 : Int32)), (0, .ref a0), (1, .int x1), (2, .int x2)]) (by decide +kernel : decode cX13_hands 46 = .ok (.istore 4, 2)) (by decide) rfl ?_
        refine re_iload (pc := 48) 0 (by decide +kernel : decode cX13_hands 48 = .ok (.iload 4, 2)) rfl ?_
        refine re_iconst (pc := 50) (-1 : Int32) (by decide +kernel : decode cX13_hands 50 = .ok (.iconst (-1), 1)) (by decide) ?_
        rcases rv_if_e h with ⟨g36_, h⟩ | ⟨g36_, h⟩
        · refine re_icmp_ne_f (pc := 51) 56 (by decide +kernel : decode cX13_hands 51 = .ok (.if_icmp .ne 5, 3)) (by decide) g36_ ?_
          refine re_iconst (pc := 54) (-1 : Int32) (by decide +kernel : decode cX13_hands 54 = .ok (.iconst (-1), 1)) (by decide) ?_
          cases h
          exact re_iret (fun ty hty => by cases hty; rfl) (by decide +kernel : decode cX13_hands 55 = .ok (.ireturn, 1))
        · refine re_icmp_ne_t (pc := 51) 56 (by decide +kernel : decode cX13_hands 51 = .ok (.if_icmp .ne 5, 3)) (by decide) g36_ ?_
          refine re_iload (pc := 56) 0 (by decide +kernel : decode cX13_hands 56 = .ok (.iload 4, 2)) rfl ?_
          refine re_istore (pc := 58) (lv1 := [(5, .int x32_), (4, .int x32_), (3, .int (0 : Int32)), (0, .ref a0), (1, .int x1), (2, .int x2)]) (by decide +kernel : decode cX13_hands 58 = .ok (.istore 5, 2)) (by decide) rfl ?_
          refine re_sub [3, 2, 1, 0] (lv1 := [(0, .ref a0), (3, .int (0 : Int32)), (4, .int x32_), (5, .int x32_)]) rfl ?_
          exact eX13_hands_60 n n S33_ a0 (0 : Int32) x32_ x32_ _ _ h
theorem metX13_hands (n : Nat) (S : rvS) (a0 : Nat) (x1 : Int32) (x2 : Int32) (r : Int32) (S' : rvS) (h : fnX13_hands n S a0 x1 x2 = some (r, S')) : rv_Met yX13_hands mX13_hands 4 [.ref a0, .int x1, .int x2] S (some (.int r)) S' := rv_Met.of ⟨by decide +kernel, rfl, (fun z => by first | rfl | cases z), rfl⟩ (Nat.le_of_ble_eq_true rfl) rfl (eX13_hands_in n S a0 x1 x2 r S' h)
noncomputable def fnX13_handAt (n : Nat) (S : rvS) (a0 : Nat) (x1 : Int32) : Option (Int32 × rvS) :=
  (rv_pI S 11 a0 0 (0 : Int32)).bind fun S1_ =>
  if x1 < 0 then (
    some ((-1 : Int32), S1_))
  else (
    (rv_gI S1_ 11 a0 36).bind fun x4_ =>
    if x4_ ≤ x1 then (
      some ((-1 : Int32), S1_))
    else (
      if (2000 : Int32) ≤ x1 then (
        some ((-1 : Int32), S1_))
      else (
        (rv_gR S1_ 11 a0 34).bind fun a8_ =>
        (rv_aI S1_ 0 a8_ x1).bind fun x10_ =>
        some (x10_, S1_))))
set_option maxRecDepth 20000 in
set_option maxHeartbeats 4000000 in
theorem eX13_handAt_in (n : Nat) (S : rvS) (a0 : Nat) (x1 : Int32) (r : Int32) (S' : rvS) (h : fnX13_handAt n S a0 x1 = some (r, S')) : rv_Ev mX13_handAt 0 0 [(0, .ref a0), (1, .int x1)] [] S (some (.int r)) S' := by
  unfold fnX13_handAt at h
  refine re_aloadn (pc := 0) 0 (by decide +kernel : decode cX13_handAt 0 = .ok (.aload_n 0, 1)) rfl ?_
  refine re_iconst (pc := 1) (0 : Int32) (by decide +kernel : decode cX13_handAt 1 = .ok (.iconst 0, 1)) (by decide) ?_
  obtain ⟨S1_, g2_, h⟩ := rv_b_e h
  refine re_pI (pc := 2) g2_ lfX13_99 rfl rfl rfl rfl (by decide +kernel : decode cX13_handAt 2 = .ok (.putfield 99, 3)) ?_
  refine re_iloadn (pc := 5) 1 (by decide +kernel : decode cX13_handAt 5 = .ok (.iload_n 1, 1)) rfl ?_
  rcases rv_if_e h with ⟨g3_, h⟩ | ⟨g3_, h⟩
  · refine re_if_lt_t (pc := 6) 33 (by decide +kernel : decode cX13_handAt 6 = .ok (.ifCond .lt 27, 3)) (by decide) g3_ ?_
    refine re_iconst (pc := 33) (-1 : Int32) (by decide +kernel : decode cX13_handAt 33 = .ok (.iconst (-1), 1)) (by decide) ?_
    cases h
    exact re_iret (fun ty hty => by cases hty; rfl) (by decide +kernel : decode cX13_handAt 34 = .ok (.ireturn, 1))
  · refine re_if_lt_f (pc := 6) 33 (by decide +kernel : decode cX13_handAt 6 = .ok (.ifCond .lt 27, 3)) (by decide) g3_ ?_
    refine re_iloadn (pc := 9) 1 (by decide +kernel : decode cX13_handAt 9 = .ok (.iload_n 1, 1)) rfl ?_
    refine re_aloadn (pc := 10) 0 (by decide +kernel : decode cX13_handAt 10 = .ok (.aload_n 0, 1)) rfl ?_
    obtain ⟨x4_, g5_, h⟩ := rv_b_e h
    refine re_gI (pc := 11) g5_ lfX13_384 rfl (by decide +kernel : decode cX13_handAt 11 = .ok (.getfield 384, 3)) ?_
    rcases rv_if_e h with ⟨g6_, h⟩ | ⟨g6_, h⟩
    · refine re_icmp_ge_t (pc := 14) 33 (by decide +kernel : decode cX13_handAt 14 = .ok (.if_icmp .ge 19, 3)) (by decide) g6_ ?_
      refine re_iconst (pc := 33) (-1 : Int32) (by decide +kernel : decode cX13_handAt 33 = .ok (.iconst (-1), 1)) (by decide) ?_
      cases h
      exact re_iret (fun ty hty => by cases hty; rfl) (by decide +kernel : decode cX13_handAt 34 = .ok (.ireturn, 1))
    · refine re_icmp_ge_f (pc := 14) 33 (by decide +kernel : decode cX13_handAt 14 = .ok (.if_icmp .ge 19, 3)) (by decide) g6_ ?_
      refine re_iloadn (pc := 17) 1 (by decide +kernel : decode cX13_handAt 17 = .ok (.iload_n 1, 1)) rfl ?_
      refine re_sipush (pc := 18) (2000 : Int32) (by decide +kernel : decode cX13_handAt 18 = .ok (.sipush 2000, 3)) (by decide) ?_
      rcases rv_if_e h with ⟨g7_, h⟩ | ⟨g7_, h⟩
      · refine re_icmp_ge_t (pc := 21) 33 (by decide +kernel : decode cX13_handAt 21 = .ok (.if_icmp .ge 12, 3)) (by decide) g7_ ?_
        refine re_iconst (pc := 33) (-1 : Int32) (by decide +kernel : decode cX13_handAt 33 = .ok (.iconst (-1), 1)) (by decide) ?_
        cases h
        exact re_iret (fun ty hty => by cases hty; rfl) (by decide +kernel : decode cX13_handAt 34 = .ok (.ireturn, 1))
      · refine re_icmp_ge_f (pc := 21) 33 (by decide +kernel : decode cX13_handAt 21 = .ok (.if_icmp .ge 12, 3)) (by decide) g7_ ?_
        refine re_aloadn (pc := 24) 0 (by decide +kernel : decode cX13_handAt 24 = .ok (.aload_n 0, 1)) rfl ?_
        obtain ⟨a8_, g9_, h⟩ := rv_b_e h
        refine re_gR (pc := 25) g9_ lfX13_72 rfl (by decide +kernel : decode cX13_handAt 25 = .ok (.getfield 72, 3)) ?_
        refine re_iloadn (pc := 28) 1 (by decide +kernel : decode cX13_handAt 28 = .ok (.iload_n 1, 1)) rfl ?_
        obtain ⟨x10_, g11_, h⟩ := rv_b_e h
        refine re_aI (pc := 29) g11_ (by decide +kernel : decode cX13_handAt 29 = .ok (.iaload, 1)) ?_
        refine re_goto (pc := 30) 34 (by decide +kernel : decode cX13_handAt 30 = .ok (.goto 4, 3)) (by decide) ?_
        cases h
        exact re_iret (fun ty hty => by cases hty; rfl) (by decide +kernel : decode cX13_handAt 34 = .ok (.ireturn, 1))
theorem metX13_handAt (n : Nat) (S : rvS) (a0 : Nat) (x1 : Int32) (r : Int32) (S' : rvS) (h : fnX13_handAt n S a0 x1 = some (r, S')) : rv_Met yX13_handAt mX13_handAt 0 [.ref a0, .int x1] S (some (.int r)) S' := rv_Met.of ⟨by decide +kernel, rfl, (fun z => by first | rfl | cases z), rfl⟩ (Nat.le_of_ble_eq_true rfl) rfl (eX13_handAt_in n S a0 x1 r S' h)
noncomputable def cX13_again_47 (n : Nat) : Nat → rvS → Nat → Int32 → Int32 → Option (Int32 × rvS)
  | 0, _, _, _, _ => none
  | k + 1, S, a0, x2, x3 =>
    (rv_gR S 11 a0 31).bind fun a1_ =>
    (rv_aI S 0 a1_ x3).bind fun x3_ =>
    if x3_ = x3 then (
      some (x2, S))
    else (
      rv_lt (x2 + (1)) fun x6_ =>
      (rv_gR S 11 a0 31).bind fun a8_ =>
      (rv_aI S 0 a8_ x3).bind fun x10_ =>
      cX13_again_47 n k S a0 x6_ x10_)
set_option maxRecDepth 20000 in
set_option maxHeartbeats 4000000 in
theorem eX13_again_47 (n : Nat) : ∀ (k : Nat) (S : rvS) (a0 : Nat) (x2 : Int32) (x3 : Int32) (r : Int32) (S' : rvS), cX13_again_47 n k S a0 x2 x3 = some (r, S') → rv_Ev mX13_again 4 47 [(0, .ref a0), (2, .int x2), (3, .int x3)] [] S (some (.int r)) S' := by
  intro k
  induction k with
  | zero => intro S a0 x2 x3 r S' h; exact absurd h (by simp [cX13_again_47])
  | succ k ih =>
    intro S a0 x2 x3 r S' h
    unfold cX13_again_47 at h
    refine re_aloadn (pc := 47) 0 (by decide +kernel : decode cX13_again 47 = .ok (.aload_n 0, 1)) rfl ?_
    obtain ⟨a1_, g2_, h⟩ := rv_b_e h
    refine re_gR (pc := 48) g2_ lfX13_63 rfl (by decide +kernel : decode cX13_again 48 = .ok (.getfield 63, 3)) ?_
    refine re_iloadn (pc := 51) 2 (by decide +kernel : decode cX13_again 51 = .ok (.iload_n 3, 1)) rfl ?_
    obtain ⟨x3_, g4_, h⟩ := rv_b_e h
    refine re_aI (pc := 52) g4_ (by decide +kernel : decode cX13_again 52 = .ok (.iaload, 1)) ?_
    refine re_iloadn (pc := 53) 2 (by decide +kernel : decode cX13_again 53 = .ok (.iload_n 3, 1)) rfl ?_
    rcases rv_if_e h with ⟨g5_, h⟩ | ⟨g5_, h⟩
    · refine re_icmp_eq_t (pc := 54) 70 (by decide +kernel : decode cX13_again 54 = .ok (.if_icmp .eq 16, 3)) (by decide) g5_ ?_
      refine re_iloadn (pc := 70) 1 (by decide +kernel : decode cX13_again 70 = .ok (.iload_n 2, 1)) rfl ?_
      cases h
      exact re_iret (fun ty hty => by cases hty; rfl) (by decide +kernel : decode cX13_again 71 = .ok (.ireturn, 1))
    · refine re_icmp_eq_f (pc := 54) 70 (by decide +kernel : decode cX13_again 54 = .ok (.if_icmp .eq 16, 3)) (by decide) g5_ ?_
      obtain ⟨x6_, g7_, h⟩ := rv_lt_e h
      refine re_iinc (pc := 57) 1 x6_ (lv1 := [(2, .int x6_), (0, .ref a0), (3, .int x3)]) (by decide +kernel : decode cX13_again 57 = .ok (.iinc 2 1, 3)) rfl g7_ (by decide) rfl ?_
      refine re_aloadn (pc := 60) 1 (by decide +kernel : decode cX13_again 60 = .ok (.aload_n 0, 1)) rfl ?_
      obtain ⟨a8_, g9_, h⟩ := rv_b_e h
      refine re_gR (pc := 61) g9_ lfX13_63 rfl (by decide +kernel : decode cX13_again 61 = .ok (.getfield 63, 3)) ?_
      refine re_iloadn (pc := 64) 2 (by decide +kernel : decode cX13_again 64 = .ok (.iload_n 3, 1)) rfl ?_
      obtain ⟨x10_, g11_, h⟩ := rv_b_e h
      refine re_aI (pc := 65) g11_ (by decide +kernel : decode cX13_again 65 = .ok (.iaload, 1)) ?_
      refine re_istoren (pc := 66) (lv1 := [(3, .int x10_), (2, .int x6_), (0, .ref a0)]) (by decide +kernel : decode cX13_again 66 = .ok (.istore_n 3, 1)) rfl (by decide) rfl ?_
      refine re_goto (pc := 67) 47 (by decide +kernel : decode cX13_again 67 = .ok (.goto (-20), 3)) (by decide) ?_
      refine re_sub [2, 1, 0] (lv1 := [(0, .ref a0), (2, .int x6_), (3, .int x10_)]) rfl ?_
      exact ih S a0 x6_ x10_ _ _ h
noncomputable def fnX13_again (n : Nat) (S : rvS) (a0 : Nat) (x1 : Int32) : Option (Int32 × rvS) :=
  (rv_pI S 11 a0 0 (0 : Int32)).bind fun S1_ =>
  (rv_ck S1_ 11 a0).bind fun u3_ =>
  (fnX13_lay n S1_ a0).bind fun S6_ =>
  (rv_ck S6_ 11 a0).bind fun u9_ =>
  (fnX13_isCoin n S6_ a0 x1).bind fun x12_ =>
  if x12_ = 0 then (
    some ((-1 : Int32), S6_))
  else (
    (rv_ck S6_ 11 a0).bind fun u15_ =>
    (fnX13_hold n S6_ a0 x1).bind fun S18_ =>
    (rv_ck S18_ 11 a0).bind fun u21_ =>
    (fnX13_code n S18_ a0).bind fun x24_ =>
    (rv_ck S18_ 11 a0).bind fun u26_ =>
    rv_bp (fnX13_reach n S18_ a0 x1 (-1 : Int32) x24_) fun x29_ S30_ =>
    if x29_ = (-1 : Int32) then (
      some ((-1 : Int32), S30_))
    else (
      (rv_gI S30_ 11 a0 37).bind fun x34_ =>
      cX13_again_47 n n S30_ a0 (1 : Int32) x34_))
set_option maxRecDepth 20000 in
set_option maxHeartbeats 4000000 in
theorem eX13_again_in (n : Nat) (S : rvS) (a0 : Nat) (x1 : Int32) (r : Int32) (S' : rvS) (h : fnX13_again n S a0 x1 = some (r, S')) : rv_Ev mX13_again 4 0 [(0, .ref a0), (1, .int x1)] [] S (some (.int r)) S' := by
  unfold fnX13_again at h
  refine re_aloadn (pc := 0) 0 (by decide +kernel : decode cX13_again 0 = .ok (.aload_n 0, 1)) rfl ?_
  refine re_iconst (pc := 1) (0 : Int32) (by decide +kernel : decode cX13_again 1 = .ok (.iconst 0, 1)) (by decide) ?_
  obtain ⟨S1_, g2_, h⟩ := rv_b_e h
  refine re_pI (pc := 2) g2_ lfX13_99 rfl rfl rfl rfl (by decide +kernel : decode cX13_again 2 = .ok (.putfield 99, 3)) ?_
  refine re_aloadn (pc := 5) 0 (by decide +kernel : decode cX13_again 5 = .ok (.aload_n 0, 1)) rfl ?_
  obtain ⟨u3_, g4_, h⟩ := rv_b_e h
  obtain ⟨S6_, g7_, h⟩ := rv_b_e h
  have m5_ := metX13_lay n S1_ a0 _ g7_
  have z8_ : rv_same S1_ S6_ := m5_.sh rfl
  refine re_cV (pc := 6) [] m5_ (rv_okl.k z8_) (rv_up.sh z8_) (by decide) (rv_ck_e g4_) ⟨by decide, rfl⟩ (Nat.le_of_ble_eq_true rfl) lVX13_187 rfl (by decide +kernel : decode cX13_again 6 = .ok (.invokevirtual 187, 3)) ?_
  refine re_aloadn (pc := 9) 0 (by decide +kernel : decode cX13_again 9 = .ok (.aload_n 0, 1)) rfl ?_
  refine re_iloadn (pc := 10) 1 (by decide +kernel : decode cX13_again 10 = .ok (.iload_n 1, 1)) rfl ?_
  obtain ⟨u9_, g10_, h⟩ := rv_b_e h
  obtain ⟨x12_, g13_, h⟩ := rv_b_e h
  have m11_ := metX13_isCoin n S6_ a0 x1 _ g13_
  refine re_cV (pc := 11) [.int x1] m11_ (rv_okl.k ⟨rfl, rfl⟩) (rv_up.rf _ _) (by decide) (rv_ck_e g10_) ⟨by decide, rfl⟩ (Nat.le_of_ble_eq_true rfl) lVX13_277 rfl (by decide +kernel : decode cX13_again 11 = .ok (.invokevirtual 277, 3)) ?_
  rcases rv_if_e h with ⟨g14_, h⟩ | ⟨g14_, h⟩
  · refine re_if_ne_f (pc := 14) 19 (by decide +kernel : decode cX13_again 14 = .ok (.ifCond .ne 5, 3)) (by decide) g14_ ?_
    refine re_iconst (pc := 17) (-1 : Int32) (by decide +kernel : decode cX13_again 17 = .ok (.iconst (-1), 1)) (by decide) ?_
    cases h
    exact re_iret (fun ty hty => by cases hty; rfl) (by decide +kernel : decode cX13_again 18 = .ok (.ireturn, 1))
  · refine re_if_ne_t (pc := 14) 19 (by decide +kernel : decode cX13_again 14 = .ok (.ifCond .ne 5, 3)) (by decide) g14_ ?_
    refine re_aloadn (pc := 19) 0 (by decide +kernel : decode cX13_again 19 = .ok (.aload_n 0, 1)) rfl ?_
    refine re_iloadn (pc := 20) 1 (by decide +kernel : decode cX13_again 20 = .ok (.iload_n 1, 1)) rfl ?_
    obtain ⟨u15_, g16_, h⟩ := rv_b_e h
    obtain ⟨S18_, g19_, h⟩ := rv_b_e h
    have m17_ := metX13_hold n S6_ a0 x1 _ g19_
    have z20_ : rv_same S6_ S18_ := m17_.sh rfl
    refine re_cV (pc := 21) [.int x1] m17_ (rv_okl.k z20_) (rv_up.sh z20_) (by decide) (rv_ck_e g16_) ⟨by decide, rfl⟩ (Nat.le_of_ble_eq_true rfl) lVX13_298 rfl (by decide +kernel : decode cX13_again 21 = .ok (.invokevirtual 298, 3)) ?_
    refine re_aloadn (pc := 24) 0 (by decide +kernel : decode cX13_again 24 = .ok (.aload_n 0, 1)) rfl ?_
    refine re_iloadn (pc := 25) 1 (by decide +kernel : decode cX13_again 25 = .ok (.iload_n 1, 1)) rfl ?_
    refine re_iconst (pc := 26) (-1 : Int32) (by decide +kernel : decode cX13_again 26 = .ok (.iconst (-1), 1)) (by decide) ?_
    refine re_aloadn (pc := 27) 0 (by decide +kernel : decode cX13_again 27 = .ok (.aload_n 0, 1)) rfl ?_
    obtain ⟨u21_, g22_, h⟩ := rv_b_e h
    obtain ⟨x24_, g25_, h⟩ := rv_b_e h
    have m23_ := metX13_code n S18_ a0 _ g25_
    refine re_cV (pc := 28) [] m23_ (rv_okl.k ⟨rfl, rfl⟩) (rv_up.rf _ _) (by decide) (rv_ck_e g22_) ⟨by decide, rfl⟩ (Nat.le_of_ble_eq_true rfl) lVX13_366 rfl (by decide +kernel : decode cX13_again 28 = .ok (.invokevirtual 366, 3)) ?_
    obtain ⟨u26_, g27_, h⟩ := rv_b_e h
    obtain ⟨x29_, S30_, g31_, h⟩ := rv_bp_e h
    have m28_ := metX13_reach n S18_ a0 x1 (-1 : Int32) x24_ _ _ g31_
    have z32_ : rv_same S18_ S30_ := m28_.sh rfl
    refine re_cV (pc := 31) [.int x1, .int (-1 : Int32), .int x24_] m28_ (rv_okl.k z32_) (rv_up.sh z32_) (by decide) (rv_ck_e g27_) ⟨by decide, rfl⟩ (Nat.le_of_ble_eq_true rfl) lVX13_378 rfl (by decide +kernel : decode cX13_again 31 = .ok (.invokevirtual 378, 3)) ?_
    refine re_iconst (pc := 34) (-1 : Int32) (by decide +kernel : decode cX13_again 34 = .ok (.iconst (-1), 1)) (by decide) ?_
    rcases rv_if_e h with ⟨g33_, h⟩ | ⟨g33_, h⟩
    · refine re_icmp_ne_f (pc := 35) 40 (by decide +kernel : decode cX13_again 35 = .ok (.if_icmp .ne 5, 3)) (by decide) g33_ ?_
      refine re_iconst (pc := 38) (-1 : Int32) (by decide +kernel : decode cX13_again 38 = .ok (.iconst (-1), 1)) (by decide) ?_
      cases h
      exact re_iret (fun ty hty => by cases hty; rfl) (by decide +kernel : decode cX13_again 39 = .ok (.ireturn, 1))
    · refine re_icmp_ne_t (pc := 35) 40 (by decide +kernel : decode cX13_again 35 = .ok (.if_icmp .ne 5, 3)) (by decide) g33_ ?_
      refine re_iconst (pc := 40) (1 : Int32) (by decide +kernel : decode cX13_again 40 = .ok (.iconst 1, 1)) (by decide) ?_
      refine re_istoren (pc := 41) (lv1 := [(2, .int (1 : Int32)), (0, .ref a0), (1, .int x1)]) (by decide +kernel : decode cX13_again 41 = .ok (.istore_n 2, 1)) rfl (by decide) rfl ?_
      refine re_aloadn (pc := 42) 1 (by decide +kernel : decode cX13_again 42 = .ok (.aload_n 0, 1)) rfl ?_
      obtain ⟨x34_, g35_, h⟩ := rv_b_e h
      refine re_gI (pc := 43) g35_ lfX13_375 rfl (by decide +kernel : decode cX13_again 43 = .ok (.getfield 375, 3)) ?_
      refine re_istoren (pc := 46) (lv1 := [(3, .int x34_), (2, .int (1 : Int32)), (0, .ref a0), (1, .int x1)]) (by decide +kernel : decode cX13_again 46 = .ok (.istore_n 3, 1)) rfl (by decide) rfl ?_
      refine re_sub [2, 1, 0] (lv1 := [(0, .ref a0), (2, .int (1 : Int32)), (3, .int x34_)]) rfl ?_
      exact eX13_again_47 n n S30_ a0 (1 : Int32) x34_ _ _ h
theorem metX13_again (n : Nat) (S : rvS) (a0 : Nat) (x1 : Int32) (r : Int32) (S' : rvS) (h : fnX13_again n S a0 x1 = some (r, S')) : rv_Met yX13_again mX13_again 4 [.ref a0, .int x1] S (some (.int r)) S' := rv_Met.of ⟨by decide +kernel, rfl, (fun z => by first | rfl | cases z), rfl⟩ (Nat.le_of_ble_eq_true rfl) rfl (eX13_again_in n S a0 x1 r S' h)
noncomputable def fnX13_end_ (n : Nat) (S : rvS) (a0 : Nat) (x1 : Int32) (x2 : Int32) : Option (Int32 × rvS) :=
  (rv_gR S 11 a0 25).bind fun a1_ =>
  (rv_uI S a1_ x2 x1).bind fun S3_ =>
  some (x2 + (1 : Int32), S3_)
set_option maxRecDepth 20000 in
set_option maxHeartbeats 4000000 in
theorem eX13_end__in (n : Nat) (S : rvS) (a0 : Nat) (x1 : Int32) (x2 : Int32) (r : Int32) (S' : rvS) (h : fnX13_end_ n S a0 x1 x2 = some (r, S')) : rv_Ev mX13_end_ 0 0 [(0, .ref a0), (1, .int x1), (2, .int x2)] [] S (some (.int r)) S' := by
  unfold fnX13_end_ at h
  refine re_aloadn (pc := 0) 0 (by decide +kernel : decode cX13_end_ 0 = .ok (.aload_n 0, 1)) rfl ?_
  obtain ⟨a1_, g2_, h⟩ := rv_b_e h
  refine re_gR (pc := 1) g2_ lfX13_43 rfl (by decide +kernel : decode cX13_end_ 1 = .ok (.getfield 43, 3)) ?_
  refine re_iloadn (pc := 4) 2 (by decide +kernel : decode cX13_end_ 4 = .ok (.iload_n 2, 1)) rfl ?_
  refine re_iloadn (pc := 5) 1 (by decide +kernel : decode cX13_end_ 5 = .ok (.iload_n 1, 1)) rfl ?_
  obtain ⟨S3_, g4_, h⟩ := rv_b_e h
  refine re_uI (pc := 6) g4_ (by decide +kernel : decode cX13_end_ 6 = .ok (.iastore, 1)) ?_
  refine re_iloadn (pc := 7) 2 (by decide +kernel : decode cX13_end_ 7 = .ok (.iload_n 2, 1)) rfl ?_
  refine re_iconst (pc := 8) (1 : Int32) (by decide +kernel : decode cX13_end_ 8 = .ok (.iconst 1, 1)) (by decide) ?_
  refine re_iadd (pc := 9) (by decide +kernel : decode cX13_end_ 9 = .ok (.iadd, 1)) ?_
  cases h
  exact re_iret (fun ty hty => by cases hty; rfl) (by decide +kernel : decode cX13_end_ 10 = .ok (.ireturn, 1))
theorem metX13_end_ (n : Nat) (S : rvS) (a0 : Nat) (x1 : Int32) (x2 : Int32) (r : Int32) (S' : rvS) (h : fnX13_end_ n S a0 x1 x2 = some (r, S')) : rv_Met yX13_end_ mX13_end_ 0 [.ref a0, .int x1, .int x2] S (some (.int r)) S' := rv_Met.of ⟨by decide +kernel, rfl, (fun z => by first | rfl | cases z), rfl⟩ (Nat.le_of_ble_eq_true rfl) rfl (eX13_end__in n S a0 x1 x2 r S' h)
noncomputable def cX13_leaveOutBare_6 (n : Nat) : Nat → rvS → Nat → Int32 → Int32 → Int32 → Option (Int32 × rvS)
  | 0, _, _, _, _, _ => none
  | k + 1, S, a0, x2, x4, x5 =>
    (rv_ck S 11 a0).bind fun u1_ =>
    (fnX13_whos n S a0).bind fun x4_ =>
    if x4_ ≤ x5 then (
      some (x4, S))
    else (
      (rv_gR S 11 a0 24).bind fun a7_ =>
      (rv_uI S a7_ (0 : Int32) x5).bind fun S9_ =>
      (rv_gR S9_ 11 a0 24).bind fun a11_ =>
      (rv_uI S9_ a11_ (1 : Int32) (0 : Int32)).bind fun S13_ =>
      (rv_ck S13_ 11 a0).bind fun u15_ =>
      (fnX13_code n S13_ a0).bind fun x18_ =>
      (rv_gR S13_ 11 a0 31).bind fun a20_ =>
      (rv_aI S13_ 0 a20_ x18_).bind fun x22_ =>
      if x22_ = (-1 : Int32) then (
        rv_lt (x5 + (1)) fun x25_ =>
        cX13_leaveOutBare_6 n k S13_ a0 x2 x4 x25_)
      else (
        (rv_ck S13_ 11 a0).bind fun u27_ =>
        (fnX13_whyNot n S13_ a0 x2).bind fun x30_ =>
        if x30_ = 0 then (
          (rv_gR S13_ 11 a0 33).bind fun a33_ =>
          (rv_aI S13_ 0 a33_ x18_).bind fun x35_ =>
          (rv_uI S13_ a33_ x18_ (x35_ - (1 : Int32))).bind fun S37_ =>
          (rv_gR S37_ 11 a0 33).bind fun a39_ =>
          (rv_aI S37_ 0 a39_ x18_).bind fun x41_ =>
          if x41_ = 0 then (
            (rv_ck S37_ 11 a0).bind fun u46_ =>
            rv_bp (fnX13_end_ n S37_ a0 x18_ x4) fun x49_ S50_ =>
            rv_lt (x5 + (1)) fun x53_ =>
            cX13_leaveOutBare_6 n k S50_ a0 x2 x49_ x53_)
          else (
            rv_lt (x5 + (1)) fun x44_ =>
            cX13_leaveOutBare_6 n k S37_ a0 x2 x4 x44_))
        else (
          rv_lt (x5 + (1)) fun x55_ =>
          cX13_leaveOutBare_6 n k S13_ a0 x2 x4 x55_)))
set_option maxRecDepth 20000 in
set_option maxHeartbeats 4000000 in
theorem eX13_leaveOutBare_6 (n : Nat) : ∀ (k : Nat) (S : rvS) (a0 : Nat) (x2 : Int32) (x4 : Int32) (x5 : Int32) (r : Int32) (S' : rvS), cX13_leaveOutBare_6 n k S a0 x2 x4 x5 = some (r, S') → rv_Ev mX13_leaveOutBare 3 6 [(0, .ref a0), (2, .int x2), (4, .int x4), (5, .int x5)] [] S (some (.int r)) S' := by
  intro k
  induction k with
  | zero => intro S a0 x2 x4 x5 r S' h; exact absurd h (by simp [cX13_leaveOutBare_6])
  | succ k ih =>
    intro S a0 x2 x4 x5 r S' h
    unfold cX13_leaveOutBare_6 at h
    refine re_iload (pc := 6) 3 (by decide +kernel : decode cX13_leaveOutBare 6 = .ok (.iload 5, 2)) rfl ?_
    refine re_aloadn (pc := 8) 0 (by decide +kernel : decode cX13_leaveOutBare 8 = .ok (.aload_n 0, 1)) rfl ?_
    obtain ⟨u1_, g2_, h⟩ := rv_b_e h
    obtain ⟨x4_, g5_, h⟩ := rv_b_e h
    have m3_ := metX13_whos n S a0 _ g5_
    refine re_cV (pc := 9) [] m3_ (rv_okl.k ⟨rfl, rfl⟩) (rv_up.rf _ _) (by decide) (rv_ck_e g2_) ⟨by decide, rfl⟩ (Nat.le_of_ble_eq_true rfl) lVX13_255 rfl (by decide +kernel : decode cX13_leaveOutBare 9 = .ok (.invokevirtual 255, 3)) ?_
    rcases rv_if_e h with ⟨g6_, h⟩ | ⟨g6_, h⟩
    · refine re_icmp_ge_t (pc := 12) 95 (by decide +kernel : decode cX13_leaveOutBare 12 = .ok (.if_icmp .ge 83, 3)) (by decide) g6_ ?_
      refine re_iload (pc := 95) 2 (by decide +kernel : decode cX13_leaveOutBare 95 = .ok (.iload 4, 2)) rfl ?_
      cases h
      exact re_iret (fun ty hty => by cases hty; rfl) (by decide +kernel : decode cX13_leaveOutBare 97 = .ok (.ireturn, 1))
    · refine re_icmp_ge_f (pc := 12) 95 (by decide +kernel : decode cX13_leaveOutBare 12 = .ok (.if_icmp .ge 83, 3)) (by decide) g6_ ?_
      refine re_aloadn (pc := 15) 0 (by decide +kernel : decode cX13_leaveOutBare 15 = .ok (.aload_n 0, 1)) rfl ?_
      obtain ⟨a7_, g8_, h⟩ := rv_b_e h
      refine re_gR (pc := 16) g8_ lfX13_39 rfl (by decide +kernel : decode cX13_leaveOutBare 16 = .ok (.getfield 39, 3)) ?_
      refine re_iconst (pc := 19) (0 : Int32) (by decide +kernel : decode cX13_leaveOutBare 19 = .ok (.iconst 0, 1)) (by decide) ?_
      refine re_iload (pc := 20) 3 (by decide +kernel : decode cX13_leaveOutBare 20 = .ok (.iload 5, 2)) rfl ?_
      obtain ⟨S9_, g10_, h⟩ := rv_b_e h
      refine re_uI (pc := 22) g10_ (by decide +kernel : decode cX13_leaveOutBare 22 = .ok (.iastore, 1)) ?_
      refine re_aloadn (pc := 23) 0 (by decide +kernel : decode cX13_leaveOutBare 23 = .ok (.aload_n 0, 1)) rfl ?_
      obtain ⟨a11_, g12_, h⟩ := rv_b_e h
      refine re_gR (pc := 24) g12_ lfX13_39 rfl (by decide +kernel : decode cX13_leaveOutBare 24 = .ok (.getfield 39, 3)) ?_
      refine re_iconst (pc := 27) (1 : Int32) (by decide +kernel : decode cX13_leaveOutBare 27 = .ok (.iconst 1, 1)) (by decide) ?_
      refine re_iconst (pc := 28) (0 : Int32) (by decide +kernel : decode cX13_leaveOutBare 28 = .ok (.iconst 0, 1)) (by decide) ?_
      obtain ⟨S13_, g14_, h⟩ := rv_b_e h
      refine re_uI (pc := 29) g14_ (by decide +kernel : decode cX13_leaveOutBare 29 = .ok (.iastore, 1)) ?_
      refine re_aloadn (pc := 30) 0 (by decide +kernel : decode cX13_leaveOutBare 30 = .ok (.aload_n 0, 1)) rfl ?_
      obtain ⟨u15_, g16_, h⟩ := rv_b_e h
      obtain ⟨x18_, g19_, h⟩ := rv_b_e h
      have m17_ := metX13_code n S13_ a0 _ g19_
      refine re_cV (pc := 31) [] m17_ (rv_okl.k ⟨rfl, rfl⟩) (rv_up.rf _ _) (by decide) (rv_ck_e g16_) ⟨by decide, rfl⟩ (Nat.le_of_ble_eq_true rfl) lVX13_366 rfl (by decide +kernel : decode cX13_leaveOutBare 31 = .ok (.invokevirtual 366, 3)) ?_
      refine re_istore (pc := 34) (lv1 := [(6, .int x18_), (0, .ref a0), (2, .int x2), (4, .int x4), (5, .int x5)]) (by decide +kernel : decode cX13_leaveOutBare 34 = .ok (.istore 6, 2)) (by decide) rfl ?_
      refine re_aloadn (pc := 36) 1 (by decide +kernel : decode cX13_leaveOutBare 36 = .ok (.aload_n 0, 1)) rfl ?_
      obtain ⟨a20_, g21_, h⟩ := rv_b_e h
      refine re_gR (pc := 37) g21_ lfX13_63 rfl (by decide +kernel : decode cX13_leaveOutBare 37 = .ok (.getfield 63, 3)) ?_
      refine re_iload (pc := 40) 0 (by decide +kernel : decode cX13_leaveOutBare 40 = .ok (.iload 6, 2)) rfl ?_
      obtain ⟨x22_, g23_, h⟩ := rv_b_e h
      refine re_aI (pc := 42) g23_ (by decide +kernel : decode cX13_leaveOutBare 42 = .ok (.iaload, 1)) ?_
      refine re_iconst (pc := 43) (-1 : Int32) (by decide +kernel : decode cX13_leaveOutBare 43 = .ok (.iconst (-1), 1)) (by decide) ?_
      rcases rv_if_e h with ⟨g24_, h⟩ | ⟨g24_, h⟩
      · refine re_icmp_eq_t (pc := 44) 89 (by decide +kernel : decode cX13_leaveOutBare 44 = .ok (.if_icmp .eq 45, 3)) (by decide) g24_ ?_
        obtain ⟨x25_, g26_, h⟩ := rv_lt_e h
        refine re_iinc (pc := 89) 4 x25_ (lv1 := [(5, .int x25_), (6, .int x18_), (0, .ref a0), (2, .int x2), (4, .int x4)]) (by decide +kernel : decode cX13_leaveOutBare 89 = .ok (.iinc 5 1, 3)) rfl g26_ (by decide) rfl ?_
        refine re_goto (pc := 92) 6 (by decide +kernel : decode cX13_leaveOutBare 92 = .ok (.goto (-86), 3)) (by decide) ?_
        refine re_sub [2, 3, 4, 0] (lv1 := [(0, .ref a0), (2, .int x2), (4, .int x4), (5, .int x25_)]) rfl ?_
        exact ih S13_ a0 x2 x4 x25_ _ _ h
      · refine re_icmp_eq_f (pc := 44) 89 (by decide +kernel : decode cX13_leaveOutBare 44 = .ok (.if_icmp .eq 45, 3)) (by decide) g24_ ?_
        refine re_aloadn (pc := 47) 1 (by decide +kernel : decode cX13_leaveOutBare 47 = .ok (.aload_n 0, 1)) rfl ?_
        refine re_iloadn (pc := 48) 2 (by decide +kernel : decode cX13_leaveOutBare 48 = .ok (.iload_n 2, 1)) rfl ?_
        obtain ⟨u27_, g28_, h⟩ := rv_b_e h
        obtain ⟨x30_, g31_, h⟩ := rv_b_e h
        have m29_ := metX13_whyNot n S13_ a0 x2 _ g31_
        refine re_cV (pc := 49) [.int x2] m29_ (rv_okl.k ⟨rfl, rfl⟩) (rv_up.rf _ _) (by decide) (rv_ck_e g28_) ⟨by decide, rfl⟩ (Nat.le_of_ble_eq_true rfl) lVX13_304 rfl (by decide +kernel : decode cX13_leaveOutBare 49 = .ok (.invokevirtual 304, 3)) ?_
        rcases rv_if_e h with ⟨g32_, h⟩ | ⟨g32_, h⟩
        · refine re_if_eq_t (pc := 52) 58 (by decide +kernel : decode cX13_leaveOutBare 52 = .ok (.ifCond .eq 6, 3)) (by decide) g32_ ?_
          refine re_aloadn (pc := 58) 1 (by decide +kernel : decode cX13_leaveOutBare 58 = .ok (.aload_n 0, 1)) rfl ?_
          obtain ⟨a33_, g34_, h⟩ := rv_b_e h
          refine re_gR (pc := 59) g34_ lfX13_69 rfl (by decide +kernel : decode cX13_leaveOutBare 59 = .ok (.getfield 69, 3)) ?_
          refine re_iload (pc := 62) 0 (by decide +kernel : decode cX13_leaveOutBare 62 = .ok (.iload 6, 2)) rfl ?_
          refine re_dup2 (pc := 64) (by decide +kernel : decode cX13_leaveOutBare 64 = .ok (.dup2, 1)) rfl rfl ?_
          obtain ⟨x35_, g36_, h⟩ := rv_b_e h
          refine re_aI (pc := 65) g36_ (by decide +kernel : decode cX13_leaveOutBare 65 = .ok (.iaload, 1)) ?_
          refine re_iconst (pc := 66) (1 : Int32) (by decide +kernel : decode cX13_leaveOutBare 66 = .ok (.iconst 1, 1)) (by decide) ?_
          refine re_isub (pc := 67) (by decide +kernel : decode cX13_leaveOutBare 67 = .ok (.isub, 1)) ?_
          obtain ⟨S37_, g38_, h⟩ := rv_b_e h
          refine re_uI (pc := 68) g38_ (by decide +kernel : decode cX13_leaveOutBare 68 = .ok (.iastore, 1)) ?_
          refine re_aloadn (pc := 69) 1 (by decide +kernel : decode cX13_leaveOutBare 69 = .ok (.aload_n 0, 1)) rfl ?_
          obtain ⟨a39_, g40_, h⟩ := rv_b_e h
          refine re_gR (pc := 70) g40_ lfX13_69 rfl (by decide +kernel : decode cX13_leaveOutBare 70 = .ok (.getfield 69, 3)) ?_
          refine re_iload (pc := 73) 0 (by decide +kernel : decode cX13_leaveOutBare 73 = .ok (.iload 6, 2)) rfl ?_
          obtain ⟨x41_, g42_, h⟩ := rv_b_e h
          refine re_aI (pc := 75) g42_ (by decide +kernel : decode cX13_leaveOutBare 75 = .ok (.iaload, 1)) ?_
          rcases rv_if_e h with ⟨g43_, h⟩ | ⟨g43_, h⟩
          · refine re_if_ne_f (pc := 76) 89 (by decide +kernel : decode cX13_leaveOutBare 76 = .ok (.ifCond .ne 13, 3)) (by decide) g43_ ?_
            refine re_aloadn (pc := 79) 1 (by decide +kernel : decode cX13_leaveOutBare 79 = .ok (.aload_n 0, 1)) rfl ?_
            refine re_iload (pc := 80) 0 (by decide +kernel : decode cX13_leaveOutBare 80 = .ok (.iload 6, 2)) rfl ?_
            refine re_iload (pc := 82) 3 (by decide +kernel : decode cX13_leaveOutBare 82 = .ok (.iload 4, 2)) rfl ?_
            obtain ⟨u46_, g47_, h⟩ := rv_b_e h
            obtain ⟨x49_, S50_, g51_, h⟩ := rv_bp_e h
            have m48_ := metX13_end_ n S37_ a0 x18_ x4 _ _ g51_
            have z52_ : rv_same S37_ S50_ := m48_.sh rfl
            refine re_cV (pc := 84) [.int x18_, .int x4] m48_ (rv_okl.k z52_) (rv_up.sh z52_) (by decide) (rv_ck_e g47_) ⟨by decide, rfl⟩ (Nat.le_of_ble_eq_true rfl) lVX13_387 rfl (by decide +kernel : decode cX13_leaveOutBare 84 = .ok (.invokevirtual 387, 3)) ?_
            refine re_istore (pc := 87) (lv1 := [(4, .int x49_), (6, .int x18_), (0, .ref a0), (2, .int x2), (5, .int x5)]) (by decide +kernel : decode cX13_leaveOutBare 87 = .ok (.istore 4, 2)) (by decide) rfl ?_
            obtain ⟨x53_, g54_, h⟩ := rv_lt_e h
            refine re_iinc (pc := 89) 4 x53_ (lv1 := [(5, .int x53_), (4, .int x49_), (6, .int x18_), (0, .ref a0), (2, .int x2)]) (by decide +kernel : decode cX13_leaveOutBare 89 = .ok (.iinc 5 1, 3)) rfl g54_ (by decide) rfl ?_
            refine re_goto (pc := 92) 6 (by decide +kernel : decode cX13_leaveOutBare 92 = .ok (.goto (-86), 3)) (by decide) ?_
            refine re_sub [3, 4, 1, 0] (lv1 := [(0, .ref a0), (2, .int x2), (4, .int x49_), (5, .int x53_)]) rfl ?_
            exact ih S50_ a0 x2 x49_ x53_ _ _ h
          · refine re_if_ne_t (pc := 76) 89 (by decide +kernel : decode cX13_leaveOutBare 76 = .ok (.ifCond .ne 13, 3)) (by decide) g43_ ?_
            obtain ⟨x44_, g45_, h⟩ := rv_lt_e h
            refine re_iinc (pc := 89) 4 x44_ (lv1 := [(5, .int x44_), (6, .int x18_), (0, .ref a0), (2, .int x2), (4, .int x4)]) (by decide +kernel : decode cX13_leaveOutBare 89 = .ok (.iinc 5 1, 3)) rfl g45_ (by decide) rfl ?_
            refine re_goto (pc := 92) 6 (by decide +kernel : decode cX13_leaveOutBare 92 = .ok (.goto (-86), 3)) (by decide) ?_
            refine re_sub [2, 3, 4, 0] (lv1 := [(0, .ref a0), (2, .int x2), (4, .int x4), (5, .int x44_)]) rfl ?_
            exact ih S37_ a0 x2 x4 x44_ _ _ h
        · refine re_if_eq_f (pc := 52) 58 (by decide +kernel : decode cX13_leaveOutBare 52 = .ok (.ifCond .eq 6, 3)) (by decide) g32_ ?_
          refine re_goto (pc := 55) 89 (by decide +kernel : decode cX13_leaveOutBare 55 = .ok (.goto 34, 3)) (by decide) ?_
          obtain ⟨x55_, g56_, h⟩ := rv_lt_e h
          refine re_iinc (pc := 89) 4 x55_ (lv1 := [(5, .int x55_), (6, .int x18_), (0, .ref a0), (2, .int x2), (4, .int x4)]) (by decide +kernel : decode cX13_leaveOutBare 89 = .ok (.iinc 5 1, 3)) rfl g56_ (by decide) rfl ?_
          refine re_goto (pc := 92) 6 (by decide +kernel : decode cX13_leaveOutBare 92 = .ok (.goto (-86), 3)) (by decide) ?_
          refine re_sub [2, 3, 4, 0] (lv1 := [(0, .ref a0), (2, .int x2), (4, .int x4), (5, .int x55_)]) rfl ?_
          exact ih S13_ a0 x2 x4 x55_ _ _ h
noncomputable def fnX13_leaveOutBare (n : Nat) (S : rvS) (a0 : Nat) (x1 : Int32) (x2 : Int32) (x3 : Int32) : Option (Int32 × rvS) :=
  cX13_leaveOutBare_6 n n S a0 x2 x3 (0 : Int32)
set_option maxRecDepth 20000 in
set_option maxHeartbeats 4000000 in
theorem eX13_leaveOutBare_in (n : Nat) (S : rvS) (a0 : Nat) (x1 : Int32) (x2 : Int32) (x3 : Int32) (r : Int32) (S' : rvS) (h : fnX13_leaveOutBare n S a0 x1 x2 x3 = some (r, S')) : rv_Ev mX13_leaveOutBare 3 0 [(0, .ref a0), (1, .int x1), (2, .int x2), (3, .int x3)] [] S (some (.int r)) S' := by
  unfold fnX13_leaveOutBare at h
  refine re_iloadn (pc := 0) 3 (by decide +kernel : decode cX13_leaveOutBare 0 = .ok (.iload_n 3, 1)) rfl ?_
  refine re_istore (pc := 1) (lv1 := [(4, .int x3), (0, .ref a0), (1, .int x1), (2, .int x2), (3, .int x3)]) (by decide +kernel : decode cX13_leaveOutBare 1 = .ok (.istore 4, 2)) (by decide) rfl ?_
  refine re_iconst (pc := 3) (0 : Int32) (by decide +kernel : decode cX13_leaveOutBare 3 = .ok (.iconst 0, 1)) (by decide) ?_
  refine re_istore (pc := 4) (lv1 := [(5, .int (0 : Int32)), (4, .int x3), (0, .ref a0), (1, .int x1), (2, .int x2), (3, .int x3)]) (by decide +kernel : decode cX13_leaveOutBare 4 = .ok (.istore 5, 2)) (by decide) rfl ?_
  refine re_sub [2, 4, 1, 0] (lv1 := [(0, .ref a0), (2, .int x2), (4, .int x3), (5, .int (0 : Int32))]) rfl ?_
  exact eX13_leaveOutBare_6 n n S a0 x2 x3 (0 : Int32) _ _ h
theorem metX13_leaveOutBare (n : Nat) (S : rvS) (a0 : Nat) (x1 : Int32) (x2 : Int32) (x3 : Int32) (r : Int32) (S' : rvS) (h : fnX13_leaveOutBare n S a0 x1 x2 x3 = some (r, S')) : rv_Met yX13_leaveOutBare mX13_leaveOutBare 3 [.ref a0, .int x1, .int x2, .int x3] S (some (.int r)) S' := rv_Met.of ⟨by decide +kernel, rfl, (fun z => by first | rfl | cases z), rfl⟩ (Nat.le_of_ble_eq_true rfl) rfl (eX13_leaveOutBare_in n S a0 x1 x2 x3 r S' h)
