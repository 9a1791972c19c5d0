noncomputable def fnX10_readWho (n : Nat) (S : rvS) (a0 : Nat) : Option (Int32 × rvS) :=
  (rv_gR S 9 a0 1).bind fun a1_ =>
  (rv_gR S 8 a1_ 0).bind fun a3_ =>
  (rv_gI S 0 a3_ 0).bind fun x5_ =>
  if x5_ < (16 : Int32) then (
    (rv_gR S 9 a0 0).bind fun a8_ =>
    (rv_ck S 7 a8_).bind fun u10_ =>
    (fnX8_next n S a8_).bind fun S13_ =>
    (rv_gR S13_ 9 a0 0).bind fun a16_ =>
    (rv_ck S13_ 7 a16_).bind fun u18_ =>
    (fnX8_isWord n S13_ a16_ 22).bind fun x21_ =>
    if x21_ = 0 then (
      (rv_gR S13_ 9 a0 0).bind fun a95_ =>
      (rv_ck S13_ 7 a95_).bind fun u97_ =>
      rv_bp (fnX8_fail n S13_ a95_ (1 : Int32)) fun x100_ S101_ =>
      (rv_bo x100_).bind fun b_ =>
      some (b_, S101_))
    else (
      (rv_gR S13_ 9 a0 1).bind fun a24_ =>
      (rv_gR S13_ 8 a24_ 0).bind fun a26_ =>
      (rv_gR S13_ 9 a0 0).bind fun a28_ =>
      (rv_gL S13_ 7 a28_ 7).bind fun x30_ =>
      (rv_ck S13_ 0 a26_).bind fun u32_ =>
      (fnX1_find n S13_ a26_ x30_).bind fun x35_ =>
      if x35_ = (-1 : Int32) then (
        (rv_gR S13_ 9 a0 1).bind fun a38_ =>
        (rv_gR S13_ 8 a38_ 0).bind fun a40_ =>
        (rv_gR S13_ 9 a0 0).bind fun a42_ =>
        (rv_gL S13_ 7 a42_ 7).bind fun x44_ =>
        (rv_ck S13_ 0 a40_).bind fun u46_ =>
        rv_bp (fnX1_add n S13_ a40_ x44_ (0 : Int32)) fun x49_ S50_ =>
        (rv_gR S50_ 9 a0 0).bind fun a53_ =>
        (rv_ck S50_ 7 a53_).bind fun u55_ =>
        (fnX8_next n S50_ a53_).bind fun S58_ =>
        (rv_gR S58_ 9 a0 0).bind fun a61_ =>
        (rv_gI S58_ 7 a61_ 4).bind fun x63_ =>
        if x63_ = (3 : Int32) then (
          (rv_ck S58_ 9 a0).bind fun u66_ =>
          rv_bp (fnX10_takesNumber n S58_ a0 (0 : Int32) (3 : Int32)) fun x69_ S70_ =>
          if x69_ = 0 then (
            some ((0 : Int32), S70_))
          else (
            (rv_gR S70_ 9 a0 1).bind fun a74_ =>
            (rv_gR S70_ 8 a74_ 0).bind fun a76_ =>
            (rv_gI S70_ 9 a0 3).bind fun x78_ =>
            (rv_ck S70_ 0 a76_).bind fun u80_ =>
            (fnX1_settleIn n S70_ a76_ x49_ x78_).bind fun S83_ =>
            some ((1 : Int32), S83_)))
        else (
          some ((1 : Int32), S58_)))
      else (
        (rv_gR S13_ 9 a0 0).bind fun a86_ =>
        (rv_ck S13_ 7 a86_).bind fun u88_ =>
        rv_bp (fnX8_fail n S13_ a86_ (3 : Int32)) fun x91_ S92_ =>
        (rv_bo x91_).bind fun b_ =>
        some (b_, S92_))))
  else (
    (rv_gR S 9 a0 0).bind fun a104_ =>
    (rv_ck S 7 a104_).bind fun u106_ =>
    rv_bp (fnX8_fail n S a104_ (4 : Int32)) fun x109_ S110_ =>
    (rv_bo x109_).bind fun b_ =>
    some (b_, S110_))
set_option maxRecDepth 20000 in
set_option maxHeartbeats 4000000 in
theorem eX10_readWho_in (n : Nat) (S : rvS) (a0 : Nat) (r : Int32) (S' : rvS) (h : fnX10_readWho n S a0 = some (r, S')) : rv_Ev mX10_readWho 4 0 [(0, .ref a0)] [] S (some (.int r)) S' := by
  unfold fnX10_readWho at h
  refine re_aloadn (pc := 0) 0 (by decide +kernel : decode cX10_readWho 0 = .ok (.aload_n 0, 1)) rfl ?_
  obtain ⟨a1_, g2_, h⟩ := rv_b_e h
  refine re_gR (pc := 1) g2_ lfX10_15 rfl (by decide +kernel : decode cX10_readWho 1 = .ok (.getfield 15, 3)) ?_
  obtain ⟨a3_, g4_, h⟩ := rv_b_e h
  refine re_gR (pc := 4) g4_ lfX10_107 rfl (by decide +kernel : decode cX10_readWho 4 = .ok (.getfield 107, 3)) ?_
  obtain ⟨x5_, g6_, h⟩ := rv_b_e h
  refine re_gI (pc := 7) g6_ lfX10_111 rfl (by decide +kernel : decode cX10_readWho 7 = .ok (.getfield 111, 3)) ?_
  refine re_bipush (pc := 10) (16 : Int32) (by decide +kernel : decode cX10_readWho 10 = .ok (.bipush 16, 2)) (by decide) ?_
  rcases rv_if_e h with ⟨g7_, h⟩ | ⟨g7_, h⟩
  · refine re_icmp_lt_t (pc := 12) 24 (by decide +kernel : decode cX10_readWho 12 = .ok (.if_icmp .lt 12, 3)) (by decide) g7_ ?_
    refine re_aloadn (pc := 24) 0 (by decide +kernel : decode cX10_readWho 24 = .ok (.aload_n 0, 1)) rfl ?_
    obtain ⟨a8_, g9_, h⟩ := rv_b_e h
    refine re_gR (pc := 25) g9_ lfX10_9 rfl (by decide +kernel : decode cX10_readWho 25 = .ok (.getfield 9, 3)) ?_
    obtain ⟨u10_, g11_, h⟩ := rv_b_e h
    obtain ⟨S13_, g14_, h⟩ := rv_b_e h
    have m12_ := metX8_next n S a8_ _ g14_
    have z15_ : rv_same S S13_ := m12_.sh rfl
    refine re_cV (pc := 28) [] m12_ (rv_okl.k z15_) (rv_up.sh z15_) (by decide) (rv_ck_e g11_) ⟨by decide, rfl⟩ (Nat.le_of_ble_eq_true rfl) lVX10_38 rfl (by decide +kernel : decode cX10_readWho 28 = .ok (.invokevirtual 38, 3)) ?_
    refine re_aloadn (pc := 31) 0 (by decide +kernel : decode cX10_readWho 31 = .ok (.aload_n 0, 1)) rfl ?_
    obtain ⟨a16_, g17_, h⟩ := rv_b_e h
    refine re_gR (pc := 32) g17_ lfX10_9 rfl (by decide +kernel : decode cX10_readWho 32 = .ok (.getfield 9, 3)) ?_
    refine re_getsW (pc := 35) (i := 22) (by decide) (rw3 99 (by decide +kernel) rfl) (by decide +kernel : decode cX10_readWho 35 = .ok (.getstatic 114, 3)) ?_
    obtain ⟨u18_, g19_, h⟩ := rv_b_e h
    obtain ⟨x21_, g22_, h⟩ := rv_b_e h
    have m20_ := metX8_isWord n S13_ a16_ 22 _ g22_
    refine re_cV (pc := 38) [.ref 22] m20_ (rv_okl.k ⟨rfl, rfl⟩) (rv_up.rf _ _) (by decide) (rv_ck_e g19_) ⟨by decide, rfl⟩ (Nat.le_of_ble_eq_true rfl) lVX10_117 rfl (by decide +kernel : decode cX10_readWho 38 = .ok (.invokevirtual 117, 3)) ?_
    rcases rv_if_e h with ⟨g23_, h⟩ | ⟨g23_, h⟩
    · refine re_if_ne_f (pc := 41) 53 (by decide +kernel : decode cX10_readWho 41 = .ok (.ifCond .ne 12, 3)) (by decide) g23_ ?_
      refine re_aloadn (pc := 44) 0 (by decide +kernel : decode cX10_readWho 44 = .ok (.aload_n 0, 1)) rfl ?_
      obtain ⟨a95_, g96_, h⟩ := rv_b_e h
      refine re_gR (pc := 45) g96_ lfX10_9 rfl (by decide +kernel : decode cX10_readWho 45 = .ok (.getfield 9, 3)) ?_
      refine re_iconst (pc := 48) (1 : Int32) (by decide +kernel : decode cX10_readWho 48 = .ok (.iconst 1, 1)) (by decide) ?_
      obtain ⟨u97_, g98_, h⟩ := rv_b_e h
      obtain ⟨x100_, S101_, g102_, h⟩ := rv_bp_e h
      have m99_ := metX8_fail n S13_ a95_ (1 : Int32) _ _ g102_
      have z103_ : rv_same S13_ S101_ := m99_.sh rfl
      refine re_cV (pc := 49) [.int (1 : Int32)] m99_ (rv_okl.k z103_) (rv_up.sh z103_) (by decide) (rv_ck_e g98_) ⟨by decide, rfl⟩ (Nat.le_of_ble_eq_true rfl) lVX10_34 rfl (by decide +kernel : decode cX10_readWho 49 = .ok (.invokevirtual 34, 3)) ?_
      obtain ⟨b_, gb_, h⟩ := rv_b_e h
      obtain ⟨gb1_, gb2_⟩ := rv_bo_e gb_
      refine re_nI (pc := 52) gb1_ ?_
      cases h
      exact re_iret (fun ty hty => by cases hty; exact gb2_) (by decide +kernel : decode cX10_readWho 52 = .ok (.ireturn, 1))
    · refine re_if_ne_t (pc := 41) 53 (by decide +kernel : decode cX10_readWho 41 = .ok (.ifCond .ne 12, 3)) (by decide) g23_ ?_
      refine re_aloadn (pc := 53) 0 (by decide +kernel : decode cX10_readWho 53 = .ok (.aload_n 0, 1)) rfl ?_
      obtain ⟨a24_, g25_, h⟩ := rv_b_e h
      refine re_gR (pc := 54) g25_ lfX10_15 rfl (by decide +kernel : decode cX10_readWho 54 = .ok (.getfield 15, 3)) ?_
      obtain ⟨a26_, g27_, h⟩ := rv_b_e h
      refine re_gR (pc := 57) g27_ lfX10_107 rfl (by decide +kernel : decode cX10_readWho 57 = .ok (.getfield 107, 3)) ?_
      refine re_aloadn (pc := 60) 0 (by decide +kernel : decode cX10_readWho 60 = .ok (.aload_n 0, 1)) rfl ?_
      obtain ⟨a28_, g29_, h⟩ := rv_b_e h
      refine re_gR (pc := 61) g29_ lfX10_9 rfl (by decide +kernel : decode cX10_readWho 61 = .ok (.getfield 9, 3)) ?_
      obtain ⟨x30_, g31_, h⟩ := rv_b_e h
      refine re_gL (pc := 64) g31_ lfX10_121 rfl (by decide +kernel : decode cX10_readWho 64 = .ok (.getfield 121, 3)) ?_
      obtain ⟨u32_, g33_, h⟩ := rv_b_e h
      obtain ⟨x35_, g36_, h⟩ := rv_b_e h
      have m34_ := metX1_find n S13_ a26_ x30_ _ g36_
      refine re_cV (pc := 67) [.long x30_] m34_ (rv_okl.k ⟨rfl, rfl⟩) (rv_up.rf _ _) (by decide) (rv_ck_e g33_) ⟨by decide, rfl⟩ (Nat.le_of_ble_eq_true rfl) lVX10_125 rfl (by decide +kernel : decode cX10_readWho 67 = .ok (.invokevirtual 125, 3)) ?_
      refine re_iconst (pc := 70) (-1 : Int32) (by decide +kernel : decode cX10_readWho 70 = .ok (.iconst (-1), 1)) (by decide) ?_
      rcases rv_if_e h with ⟨g37_, h⟩ | ⟨g37_, h⟩
      · refine re_icmp_eq_t (pc := 71) 83 (by decide +kernel : decode cX10_readWho 71 = .ok (.if_icmp .eq 12, 3)) (by decide) g37_ ?_
        refine re_aloadn (pc := 83) 0 (by decide +kernel : decode cX10_readWho 83 = .ok (.aload_n 0, 1)) rfl ?_
        obtain ⟨a38_, g39_, h⟩ := rv_b_e h
        refine re_gR (pc := 84) g39_ lfX10_15 rfl (by decide +kernel : decode cX10_readWho 84 = .ok (.getfield 15, 3)) ?_
        obtain ⟨a40_, g41_, h⟩ := rv_b_e h
        refine re_gR (pc := 87) g41_ lfX10_107 rfl (by decide +kernel : decode cX10_readWho 87 = .ok (.getfield 107, 3)) ?_
        refine re_aloadn (pc := 90) 0 (by decide +kernel : decode cX10_readWho 90 = .ok (.aload_n 0, 1)) rfl ?_
        obtain ⟨a42_, g43_, h⟩ := rv_b_e h
        refine re_gR (pc := 91) g43_ lfX10_9 rfl (by decide +kernel : decode cX10_readWho 91 = .ok (.getfield 9, 3)) ?_
        obtain ⟨x44_, g45_, h⟩ := rv_b_e h
        refine re_gL (pc := 94) g45_ lfX10_121 rfl (by decide +kernel : decode cX10_readWho 94 = .ok (.getfield 121, 3)) ?_
        refine re_iconst (pc := 97) (0 : Int32) (by decide +kernel : decode cX10_readWho 97 = .ok (.iconst 0, 1)) (by decide) ?_
        obtain ⟨u46_, g47_, h⟩ := rv_b_e h
        obtain ⟨x49_, S50_, g51_, h⟩ := rv_bp_e h
        have m48_ := metX1_add n S13_ a40_ x44_ (0 : Int32) _ _ g51_
        have z52_ : rv_same S13_ S50_ := m48_.sh rfl
        refine re_cV (pc := 98) [.long x44_, .int (0 : Int32)] m48_ (rv_okl.k z52_) (rv_up.sh z52_) (by decide) (rv_ck_e g47_) ⟨by decide, rfl⟩ (Nat.le_of_ble_eq_true rfl) lVX10_129 rfl (by decide +kernel : decode cX10_readWho 98 = .ok (.invokevirtual 129, 3)) ?_
        refine re_istoren (pc := 101) (lv1 := [(1, .int x49_), (0, .ref a0)]) (by decide +kernel : decode cX10_readWho 101 = .ok (.istore_n 1, 1)) rfl (by decide) rfl ?_
        refine re_aloadn (pc := 102) 1 (by decide +kernel : decode cX10_readWho 102 = .ok (.aload_n 0, 1)) rfl ?_
        obtain ⟨a53_, g54_, h⟩ := rv_b_e h
        refine re_gR (pc := 103) g54_ lfX10_9 rfl (by decide +kernel : decode cX10_readWho 103 = .ok (.getfield 9, 3)) ?_
        obtain ⟨u55_, g56_, h⟩ := rv_b_e h
        obtain ⟨S58_, g59_, h⟩ := rv_b_e h
        have m57_ := metX8_next n S50_ a53_ _ g59_
        have z60_ : rv_same S50_ S58_ := m57_.sh rfl
        refine re_cV (pc := 106) [] m57_ (rv_okl.k z60_) (rv_up.sh z60_) (by decide) (rv_ck_e g56_) ⟨by decide, rfl⟩ (Nat.le_of_ble_eq_true rfl) lVX10_38 rfl (by decide +kernel : decode cX10_readWho 106 = .ok (.invokevirtual 38, 3)) ?_
        refine re_aloadn (pc := 109) 1 (by decide +kernel : decode cX10_readWho 109 = .ok (.aload_n 0, 1)) rfl ?_
        obtain ⟨a61_, g62_, h⟩ := rv_b_e h
        refine re_gR (pc := 110) g62_ lfX10_9 rfl (by decide +kernel : decode cX10_readWho 110 = .ok (.getfield 9, 3)) ?_
        obtain ⟨x63_, g64_, h⟩ := rv_b_e h
        refine re_gI (pc := 113) g64_ lfX10_24 rfl (by decide +kernel : decode cX10_readWho 113 = .ok (.getfield 24, 3)) ?_
        refine re_iconst (pc := 116) (3 : Int32) (by decide +kernel : decode cX10_readWho 116 = .ok (.iconst 3, 1)) (by decide) ?_
        rcases rv_if_e h with ⟨g65_, h⟩ | ⟨g65_, h⟩
        · refine re_icmp_eq_t (pc := 117) 122 (by decide +kernel : decode cX10_readWho 117 = .ok (.if_icmp .eq 5, 3)) (by decide) g65_ ?_
          refine re_aloadn (pc := 122) 1 (by decide +kernel : decode cX10_readWho 122 = .ok (.aload_n 0, 1)) rfl ?_
          refine re_iconst (pc := 123) (0 : Int32) (by decide +kernel : decode cX10_readWho 123 = .ok (.iconst 0, 1)) (by decide) ?_
          refine re_iconst (pc := 124) (3 : Int32) (by decide +kernel : decode cX10_readWho 124 = .ok (.iconst 3, 1)) (by decide) ?_
          obtain ⟨u66_, g67_, h⟩ := rv_b_e h
          obtain ⟨x69_, S70_, g71_, h⟩ := rv_bp_e h
          have m68_ := metX10_takesNumber n S58_ a0 (0 : Int32) (3 : Int32) _ _ g71_
          have z72_ : rv_same S58_ S70_ := m68_.sh rfl
          refine re_cV (pc := 125) [.int (0 : Int32), .int (3 : Int32)] m68_ (rv_okl.k z72_) (rv_up.sh z72_) (by decide) (rv_ck_e g67_) ⟨by decide, rfl⟩ (Nat.le_of_ble_eq_true rfl) lVX10_97 rfl (by decide +kernel : decode cX10_readWho 125 = .ok (.invokevirtual 97, 3)) ?_
          rcases rv_if_e h with ⟨g73_, h⟩ | ⟨g73_, h⟩
          · refine re_if_ne_f (pc := 128) 133 (by decide +kernel : decode cX10_readWho 128 = .ok (.ifCond .ne 5, 3)) (by decide) g73_ ?_
            refine re_iconst (pc := 131) (0 : Int32) (by decide +kernel : decode cX10_readWho 131 = .ok (.iconst 0, 1)) (by decide) ?_
            cases h
            exact re_iret (fun ty hty => by cases hty; rfl) (by decide +kernel : decode cX10_readWho 132 = .ok (.ireturn, 1))
          · refine re_if_ne_t (pc := 128) 133 (by decide +kernel : decode cX10_readWho 128 = .ok (.ifCond .ne 5, 3)) (by decide) g73_ ?_
            refine re_aloadn (pc := 133) 1 (by decide +kernel : decode cX10_readWho 133 = .ok (.aload_n 0, 1)) rfl ?_
            obtain ⟨a74_, g75_, h⟩ := rv_b_e h
            refine re_gR (pc := 134) g75_ lfX10_15 rfl (by decide +kernel : decode cX10_readWho 134 = .ok (.getfield 15, 3)) ?_
            obtain ⟨a76_, g77_, h⟩ := rv_b_e h
            refine re_gR (pc := 137) g77_ lfX10_107 rfl (by decide +kernel : decode cX10_readWho 137 = .ok (.getfield 107, 3)) ?_
            refine re_iloadn (pc := 140) 0 (by decide +kernel : decode cX10_readWho 140 = .ok (.iload_n 1, 1)) rfl ?_
            refine re_aloadn (pc := 141) 1 (by decide +kernel : decode cX10_readWho 141 = .ok (.aload_n 0, 1)) rfl ?_
            obtain ⟨x78_, g79_, h⟩ := rv_b_e h
            refine re_gI (pc := 142) g79_ lfX10_101 rfl (by decide +kernel : decode cX10_readWho 142 = .ok (.getfield 101, 3)) ?_
            obtain ⟨u80_, g81_, h⟩ := rv_b_e h
            obtain ⟨S83_, g84_, h⟩ := rv_b_e h
            have m82_ := metX1_settleIn n S70_ a76_ x49_ x78_ _ g84_
            have z85_ : rv_same S70_ S83_ := m82_.sh rfl
            refine re_cV (pc := 145) [.int x49_, .int x78_] m82_ (rv_okl.k z85_) (rv_up.sh z85_) (by decide) (rv_ck_e g81_) ⟨by decide, rfl⟩ (Nat.le_of_ble_eq_true rfl) lVX10_133 rfl (by decide +kernel : decode cX10_readWho 145 = .ok (.invokevirtual 133, 3)) ?_
            refine re_iconst (pc := 148) (1 : Int32) (by decide +kernel : decode cX10_readWho 148 = .ok (.iconst 1, 1)) (by decide) ?_
            cases h
            exact re_iret (fun ty hty => by cases hty; rfl) (by decide +kernel : decode cX10_readWho 149 = .ok (.ireturn, 1))
        · refine re_icmp_eq_f (pc := 117) 122 (by decide +kernel : decode cX10_readWho 117 = .ok (.if_icmp .eq 5, 3)) (by decide) g65_ ?_
          refine re_iconst (pc := 120) (1 : Int32) (by decide +kernel : decode cX10_readWho 120 = .ok (.iconst 1, 1)) (by decide) ?_
          cases h
          exact re_iret (fun ty hty => by cases hty; rfl) (by decide +kernel : decode cX10_readWho 121 = .ok (.ireturn, 1))
      · refine re_icmp_eq_f (pc := 71) 83 (by decide +kernel : decode cX10_readWho 71 = .ok (.if_icmp .eq 12, 3)) (by decide) g37_ ?_
        refine re_aloadn (pc := 74) 0 (by decide +kernel : decode cX10_readWho 74 = .ok (.aload_n 0, 1)) rfl ?_
        obtain ⟨a86_, g87_, h⟩ := rv_b_e h
        refine re_gR (pc := 75) g87_ lfX10_9 rfl (by decide +kernel : decode cX10_readWho 75 = .ok (.getfield 9, 3)) ?_
        refine re_iconst (pc := 78) (3 : Int32) (by decide +kernel : decode cX10_readWho 78 = .ok (.iconst 3, 1)) (by decide) ?_
        obtain ⟨u88_, g89_, h⟩ := rv_b_e h
        obtain ⟨x91_, S92_, g93_, h⟩ := rv_bp_e h
        have m90_ := metX8_fail n S13_ a86_ (3 : Int32) _ _ g93_
        have z94_ : rv_same S13_ S92_ := m90_.sh rfl
        refine re_cV (pc := 79) [.int (3 : Int32)] m90_ (rv_okl.k z94_) (rv_up.sh z94_) (by decide) (rv_ck_e g89_) ⟨by decide, rfl⟩ (Nat.le_of_ble_eq_true rfl) lVX10_34 rfl (by decide +kernel : decode cX10_readWho 79 = .ok (.invokevirtual 34, 3)) ?_
        obtain ⟨b_, gb_, h⟩ := rv_b_e h
        obtain ⟨gb1_, gb2_⟩ := rv_bo_e gb_
        refine re_nI (pc := 82) gb1_ ?_
        cases h
        exact re_iret (fun ty hty => by cases hty; exact gb2_) (by decide +kernel : decode cX10_readWho 82 = .ok (.ireturn, 1))
  · refine re_icmp_lt_f (pc := 12) 24 (by decide +kernel : decode cX10_readWho 12 = .ok (.if_icmp .lt 12, 3)) (by decide) g7_ ?_
    refine re_aloadn (pc := 15) 0 (by decide +kernel : decode cX10_readWho 15 = .ok (.aload_n 0, 1)) rfl ?_
    obtain ⟨a104_, g105_, h⟩ := rv_b_e h
    refine re_gR (pc := 16) g105_ lfX10_9 rfl (by decide +kernel : decode cX10_readWho 16 = .ok (.getfield 9, 3)) ?_
    refine re_iconst (pc := 19) (4 : Int32) (by decide +kernel : decode cX10_readWho 19 = .ok (.iconst 4, 1)) (by decide) ?_
    obtain ⟨u106_, g107_, h⟩ := rv_b_e h
    obtain ⟨x109_, S110_, g111_, h⟩ := rv_bp_e h
    have m108_ := metX8_fail n S a104_ (4 : Int32) _ _ g111_
    have z112_ : rv_same S S110_ := m108_.sh rfl
    refine re_cV (pc := 20) [.int (4 : Int32)] m108_ (rv_okl.k z112_) (rv_up.sh z112_) (by decide) (rv_ck_e g107_) ⟨by decide, rfl⟩ (Nat.le_of_ble_eq_true rfl) lVX10_34 rfl (by decide +kernel : decode cX10_readWho 20 = .ok (.invokevirtual 34, 3)) ?_
    obtain ⟨b_, gb_, h⟩ := rv_b_e h
    obtain ⟨gb1_, gb2_⟩ := rv_bo_e gb_
    refine re_nI (pc := 23) gb1_ ?_
    cases h
    exact re_iret (fun ty hty => by cases hty; exact gb2_) (by decide +kernel : decode cX10_readWho 23 = .ok (.ireturn, 1))
theorem metX10_readWho (n : Nat) (S : rvS) (a0 : Nat) (r : Int32) (S' : rvS) (h : fnX10_readWho n S a0 = some (r, S')) : rv_Met yX10_readWho mX10_readWho 4 [.ref a0] S (some (.int r)) S' := rv_Met.of ⟨by decide +kernel, rfl, (fun z => by first | rfl | cases z), rfl⟩ (Nat.le_of_ble_eq_true rfl) rfl (eX10_readWho_in n S a0 r S' h)
noncomputable def fnX10_readRoad (n : Nat) (S : rvS) (a0 : Nat) : Option (Int32 × rvS) :=
  (rv_gR S 9 a0 0).bind fun a1_ =>
  (rv_ck S 7 a1_).bind fun u3_ =>
  (fnX8_next n S a1_).bind fun S6_ =>
  (rv_ck S6_ 9 a0).bind fun u9_ =>
  rv_bp (fnX10_takesNumber n S6_ a0 (0 : Int32) (3 : Int32)) fun x12_ S13_ =>
  if x12_ = 0 then (
    some ((0 : Int32), S13_))
  else (
    (rv_gI S13_ 9 a0 3).bind fun x17_ =>
    (rv_ck S13_ 9 a0).bind fun u19_ =>
    rv_bp (fnX10_seesNumber n S13_ a0 (0 : Int32) (3 : Int32)) fun x22_ S23_ =>
    if x22_ = 0 then (
      some ((0 : Int32), S23_))
    else (
      (rv_gR S23_ 9 a0 1).bind fun a27_ =>
      (rv_gR S23_ 8 a27_ 0).bind fun a29_ =>
      (rv_gI S23_ 9 a0 3).bind fun x31_ =>
      (rv_ck S23_ 0 a29_).bind fun u33_ =>
      (fnX1_areNear n S23_ a29_ x17_ x31_).bind fun x36_ =>
      if x36_ = 0 then (
        (rv_gR S23_ 9 a0 1).bind fun a39_ =>
        (rv_gR S23_ 8 a39_ 0).bind fun a41_ =>
        (rv_gI S23_ 9 a0 3).bind fun x43_ =>
        (rv_ck S23_ 0 a41_).bind fun u45_ =>
        (fnX1_join n S23_ a41_ x17_ x43_).bind fun S48_ =>
        (rv_gR S48_ 9 a0 0).bind fun a51_ =>
        (rv_ck S48_ 7 a51_).bind fun u53_ =>
        (fnX8_next n S48_ a51_).bind fun S56_ =>
        some ((1 : Int32), S56_))
      else (
        (rv_gR S23_ 9 a0 0).bind fun a59_ =>
        (rv_ck S23_ 7 a59_).bind fun u61_ =>
        rv_bp (fnX8_fail n S23_ a59_ (3 : Int32)) fun x64_ S65_ =>
        (rv_bo x64_).bind fun b_ =>
        some (b_, S65_))))
set_option maxRecDepth 20000 in
set_option maxHeartbeats 4000000 in
theorem eX10_readRoad_in (n : Nat) (S : rvS) (a0 : Nat) (r : Int32) (S' : rvS) (h : fnX10_readRoad n S a0 = some (r, S')) : rv_Ev mX10_readRoad 4 0 [(0, .ref a0)] [] S (some (.int r)) S' := by
  unfold fnX10_readRoad at h
  refine re_aloadn (pc := 0) 0 (by decide +kernel : decode cX10_readRoad 0 = .ok (.aload_n 0, 1)) rfl ?_
  obtain ⟨a1_, g2_, h⟩ := rv_b_e h
  refine re_gR (pc := 1) g2_ lfX10_9 rfl (by decide +kernel : decode cX10_readRoad 1 = .ok (.getfield 9, 3)) ?_
  obtain ⟨u3_, g4_, h⟩ := rv_b_e h
  obtain ⟨S6_, g7_, h⟩ := rv_b_e h
  have m5_ := metX8_next n S a1_ _ g7_
  have z8_ : rv_same S S6_ := m5_.sh rfl
  refine re_cV (pc := 4) [] m5_ (rv_okl.k z8_) (rv_up.sh z8_) (by decide) (rv_ck_e g4_) ⟨by decide, rfl⟩ (Nat.le_of_ble_eq_true rfl) lVX10_38 rfl (by decide +kernel : decode cX10_readRoad 4 = .ok (.invokevirtual 38, 3)) ?_
  refine re_aloadn (pc := 7) 0 (by decide +kernel : decode cX10_readRoad 7 = .ok (.aload_n 0, 1)) rfl ?_
  refine re_iconst (pc := 8) (0 : Int32) (by decide +kernel : decode cX10_readRoad 8 = .ok (.iconst 0, 1)) (by decide) ?_
  refine re_iconst (pc := 9) (3 : Int32) (by decide +kernel : decode cX10_readRoad 9 = .ok (.iconst 3, 1)) (by decide) ?_
  obtain ⟨u9_, g10_, h⟩ := rv_b_e h
  obtain ⟨x12_, S13_, g14_, h⟩ := rv_bp_e h
  have m11_ := metX10_takesNumber n S6_ a0 (0 : Int32) (3 : Int32) _ _ g14_
  have z15_ : rv_same S6_ S13_ := m11_.sh rfl
  refine re_cV (pc := 10) [.int (0 : Int32), .int (3 : Int32)] m11_ (rv_okl.k z15_) (rv_up.sh z15_) (by decide) (rv_ck_e g10_) ⟨by decide, rfl⟩ (Nat.le_of_ble_eq_true rfl) lVX10_97 rfl (by decide +kernel : decode cX10_readRoad 10 = .ok (.invokevirtual 97, 3)) ?_
  rcases rv_if_e h with ⟨g16_, h⟩ | ⟨g16_, h⟩
  · refine re_if_ne_f (pc := 13) 18 (by decide +kernel : decode cX10_readRoad 13 = .ok (.ifCond .ne 5, 3)) (by decide) g16_ ?_
    refine re_iconst (pc := 16) (0 : Int32) (by decide +kernel : decode cX10_readRoad 16 = .ok (.iconst 0, 1)) (by decide) ?_
    cases h
    exact re_iret (fun ty hty => by cases hty; rfl) (by decide +kernel : decode cX10_readRoad 17 = .ok (.ireturn, 1))
  · refine re_if_ne_t (pc := 13) 18 (by decide +kernel : decode cX10_readRoad 13 = .ok (.ifCond .ne 5, 3)) (by decide) g16_ ?_
    refine re_aloadn (pc := 18) 0 (by decide +kernel : decode cX10_readRoad 18 = .ok (.aload_n 0, 1)) rfl ?_
    obtain ⟨x17_, g18_, h⟩ := rv_b_e h
    refine re_gI (pc := 19) g18_ lfX10_101 rfl (by decide +kernel : decode cX10_readRoad 19 = .ok (.getfield 101, 3)) ?_
    refine re_istoren (pc := 22) (lv1 := [(1, .int x17_), (0, .ref a0)]) (by decide +kernel : decode cX10_readRoad 22 = .ok (.istore_n 1, 1)) rfl (by decide) rfl ?_
    refine re_aloadn (pc := 23) 1 (by decide +kernel : decode cX10_readRoad 23 = .ok (.aload_n 0, 1)) rfl ?_
    refine re_iconst (pc := 24) (0 : Int32) (by decide +kernel : decode cX10_readRoad 24 = .ok (.iconst 0, 1)) (by decide) ?_
    refine re_iconst (pc := 25) (3 : Int32) (by decide +kernel : decode cX10_readRoad 25 = .ok (.iconst 3, 1)) (by decide) ?_
    obtain ⟨u19_, g20_, h⟩ := rv_b_e h
    obtain ⟨x22_, S23_, g24_, h⟩ := rv_bp_e h
    have m21_ := metX10_seesNumber n S13_ a0 (0 : Int32) (3 : Int32) _ _ g24_
    have z25_ : rv_same S13_ S23_ := m21_.sh rfl
    refine re_cV (pc := 26) [.int (0 : Int32), .int (3 : Int32)] m21_ (rv_okl.k z25_) (rv_up.sh z25_) (by decide) (rv_ck_e g20_) ⟨by decide, rfl⟩ (Nat.le_of_ble_eq_true rfl) lVX10_137 rfl (by decide +kernel : decode cX10_readRoad 26 = .ok (.invokevirtual 137, 3)) ?_
    rcases rv_if_e h with ⟨g26_, h⟩ | ⟨g26_, h⟩
    · refine re_if_ne_f (pc := 29) 34 (by decide +kernel : decode cX10_readRoad 29 = .ok (.ifCond .ne 5, 3)) (by decide) g26_ ?_
      refine re_iconst (pc := 32) (0 : Int32) (by decide +kernel : decode cX10_readRoad 32 = .ok (.iconst 0, 1)) (by decide) ?_
      cases h
      exact re_iret (fun ty hty => by cases hty; rfl) (by decide +kernel : decode cX10_readRoad 33 = .ok (.ireturn, 1))
    · refine re_if_ne_t (pc := 29) 34 (by decide +kernel : decode cX10_readRoad 29 = .ok (.ifCond .ne 5, 3)) (by decide) g26_ ?_
      refine re_aloadn (pc := 34) 1 (by decide +kernel : decode cX10_readRoad 34 = .ok (.aload_n 0, 1)) rfl ?_
      obtain ⟨a27_, g28_, h⟩ := rv_b_e h
      refine re_gR (pc := 35) g28_ lfX10_15 rfl (by decide +kernel : decode cX10_readRoad 35 = .ok (.getfield 15, 3)) ?_
      obtain ⟨a29_, g30_, h⟩ := rv_b_e h
      refine re_gR (pc := 38) g30_ lfX10_107 rfl (by decide +kernel : decode cX10_readRoad 38 = .ok (.getfield 107, 3)) ?_
      refine re_iloadn (pc := 41) 0 (by decide +kernel : decode cX10_readRoad 41 = .ok (.iload_n 1, 1)) rfl ?_
      refine re_aloadn (pc := 42) 1 (by decide +kernel : decode cX10_readRoad 42 = .ok (.aload_n 0, 1)) rfl ?_
      obtain ⟨x31_, g32_, h⟩ := rv_b_e h
      refine re_gI (pc := 43) g32_ lfX10_101 rfl (by decide +kernel : decode cX10_readRoad 43 = .ok (.getfield 101, 3)) ?_
      obtain ⟨u33_, g34_, h⟩ := rv_b_e h
      obtain ⟨x36_, g37_, h⟩ := rv_b_e h
      have m35_ := metX1_areNear n S23_ a29_ x17_ x31_ _ g37_
      refine re_cV (pc := 46) [.int x17_, .int x31_] m35_ (rv_okl.k ⟨rfl, rfl⟩) (rv_up.rf _ _) (by decide) (rv_ck_e g34_) ⟨by decide, rfl⟩ (Nat.le_of_ble_eq_true rfl) lVX10_140 rfl (by decide +kernel : decode cX10_readRoad 46 = .ok (.invokevirtual 140, 3)) ?_
      rcases rv_if_e h with ⟨g38_, h⟩ | ⟨g38_, h⟩
      · refine re_if_eq_t (pc := 49) 61 (by decide +kernel : decode cX10_readRoad 49 = .ok (.ifCond .eq 12, 3)) (by decide) g38_ ?_
        refine re_aloadn (pc := 61) 1 (by decide +kernel : decode cX10_readRoad 61 = .ok (.aload_n 0, 1)) rfl ?_
        obtain ⟨a39_, g40_, h⟩ := rv_b_e h
        refine re_gR (pc := 62) g40_ lfX10_15 rfl (by decide +kernel : decode cX10_readRoad 62 = .ok (.getfield 15, 3)) ?_
        obtain ⟨a41_, g42_, h⟩ := rv_b_e h
        refine re_gR (pc := 65) g42_ lfX10_107 rfl (by decide +kernel : decode cX10_readRoad 65 = .ok (.getfield 107, 3)) ?_
        refine re_iloadn (pc := 68) 0 (by decide +kernel : decode cX10_readRoad 68 = .ok (.iload_n 1, 1)) rfl ?_
        refine re_aloadn (pc := 69) 1 (by decide +kernel : decode cX10_readRoad 69 = .ok (.aload_n 0, 1)) rfl ?_
        obtain ⟨x43_, g44_, h⟩ := rv_b_e h
        refine re_gI (pc := 70) g44_ lfX10_101 rfl (by decide +kernel : decode cX10_readRoad 70 = .ok (.getfield 101, 3)) ?_
        obtain ⟨u45_, g46_, h⟩ := rv_b_e h
        obtain ⟨S48_, g49_, h⟩ := rv_b_e h
        have m47_ := metX1_join n S23_ a41_ x17_ x43_ _ g49_
        have z50_ : rv_same S23_ S48_ := m47_.sh rfl
        refine re_cV (pc := 73) [.int x17_, .int x43_] m47_ (rv_okl.k z50_) (rv_up.sh z50_) (by decide) (rv_ck_e g46_) ⟨by decide, rfl⟩ (Nat.le_of_ble_eq_true rfl) lVX10_143 rfl (by decide +kernel : decode cX10_readRoad 73 = .ok (.invokevirtual 143, 3)) ?_
        refine re_aloadn (pc := 76) 1 (by decide +kernel : decode cX10_readRoad 76 = .ok (.aload_n 0, 1)) rfl ?_
        obtain ⟨a51_, g52_, h⟩ := rv_b_e h
        refine re_gR (pc := 77) g52_ lfX10_9 rfl (by decide +kernel : decode cX10_readRoad 77 = .ok (.getfield 9, 3)) ?_
        obtain ⟨u53_, g54_, h⟩ := rv_b_e h
        obtain ⟨S56_, g57_, h⟩ := rv_b_e h
        have m55_ := metX8_next n S48_ a51_ _ g57_
        have z58_ : rv_same S48_ S56_ := m55_.sh rfl
        refine re_cV (pc := 80) [] m55_ (rv_okl.k z58_) (rv_up.sh z58_) (by decide) (rv_ck_e g54_) ⟨by decide, rfl⟩ (Nat.le_of_ble_eq_true rfl) lVX10_38 rfl (by decide +kernel : decode cX10_readRoad 80 = .ok (.invokevirtual 38, 3)) ?_
        refine re_iconst (pc := 83) (1 : Int32) (by decide +kernel : decode cX10_readRoad 83 = .ok (.iconst 1, 1)) (by decide) ?_
        cases h
        exact re_iret (fun ty hty => by cases hty; rfl) (by decide +kernel : decode cX10_readRoad 84 = .ok (.ireturn, 1))
      · refine re_if_eq_f (pc := 49) 61 (by decide +kernel : decode cX10_readRoad 49 = .ok (.ifCond .eq 12, 3)) (by decide) g38_ ?_
        refine re_aloadn (pc := 52) 1 (by decide +kernel : decode cX10_readRoad 52 = .ok (.aload_n 0, 1)) rfl ?_
        obtain ⟨a59_, g60_, h⟩ := rv_b_e h
        refine re_gR (pc := 53) g60_ lfX10_9 rfl (by decide +kernel : decode cX10_readRoad 53 = .ok (.getfield 9, 3)) ?_
        refine re_iconst (pc := 56) (3 : Int32) (by decide +kernel : decode cX10_readRoad 56 = .ok (.iconst 3, 1)) (by decide) ?_
        obtain ⟨u61_, g62_, h⟩ := rv_b_e h
        obtain ⟨x64_, S65_, g66_, h⟩ := rv_bp_e h
        have m63_ := metX8_fail n S23_ a59_ (3 : Int32) _ _ g66_
        have z67_ : rv_same S23_ S65_ := m63_.sh rfl
        refine re_cV (pc := 57) [.int (3 : Int32)] m63_ (rv_okl.k z67_) (rv_up.sh z67_) (by decide) (rv_ck_e g62_) ⟨by decide, rfl⟩ (Nat.le_of_ble_eq_true rfl) lVX10_34 rfl (by decide +kernel : decode cX10_readRoad 57 = .ok (.invokevirtual 34, 3)) ?_
        obtain ⟨b_, gb_, h⟩ := rv_b_e h
        obtain ⟨gb1_, gb2_⟩ := rv_bo_e gb_
        refine re_nI (pc := 60) gb1_ ?_
        cases h
        exact re_iret (fun ty hty => by cases hty; exact gb2_) (by decide +kernel : decode cX10_readRoad 60 = .ok (.ireturn, 1))
theorem metX10_readRoad (n : Nat) (S : rvS) (a0 : Nat) (r : Int32) (S' : rvS) (h : fnX10_readRoad n S a0 = some (r, S')) : rv_Met yX10_readRoad mX10_readRoad 4 [.ref a0] S (some (.int r)) S' := rv_Met.of ⟨by decide +kernel, rfl, (fun z => by first | rfl | cases z), rfl⟩ (Nat.le_of_ble_eq_true rfl) rfl (eX10_readRoad_in n S a0 r S' h)
noncomputable def fnX10_seesWho (n : Nat) (S : rvS) (a0 : Nat) : Option (Int32 × rvS) :=
  (rv_gR S 9 a0 0).bind fun a1_ =>
  (rv_ck S 7 a1_).bind fun u3_ =>
  (fnX8_isWord n S a1_ 22).bind fun x6_ =>
  if x6_ = 0 then (
    (rv_gR S 9 a0 0).bind fun a37_ =>
    (rv_ck S 7 a37_).bind fun u39_ =>
    rv_bp (fnX8_fail n S a37_ (1 : Int32)) fun x42_ S43_ =>
    (rv_bo x42_).bind fun b_ =>
    some (b_, S43_))
  else (
    (rv_gR S 9 a0 1).bind fun a9_ =>
    (rv_gR S 8 a9_ 0).bind fun a11_ =>
    (rv_gR S 9 a0 0).bind fun a13_ =>
    (rv_gL S 7 a13_ 7).bind fun x15_ =>
    (rv_ck S 0 a11_).bind fun u17_ =>
    (fnX1_find n S a11_ x15_).bind fun x20_ =>
    (rv_pI S 9 a0 4 x20_).bind fun S22_ =>
    (rv_gI S22_ 9 a0 4).bind fun x24_ =>
    if x24_ = (-1 : Int32) then (
      (rv_gR S22_ 9 a0 0).bind fun a27_ =>
      (rv_ck S22_ 7 a27_).bind fun u29_ =>
      rv_bp (fnX8_fail n S22_ a27_ (3 : Int32)) fun x32_ S33_ =>
      if x32_ = 0 then (
        some ((0 : Int32), S33_))
      else (
        some ((1 : Int32), S33_)))
    else (
      some ((1 : Int32), S22_)))
set_option maxRecDepth 20000 in
set_option maxHeartbeats 4000000 in
theorem eX10_seesWho_in (n : Nat) (S : rvS) (a0 : Nat) (r : Int32) (S' : rvS) (h : fnX10_seesWho n S a0 = some (r, S')) : rv_Ev mX10_seesWho 1 0 [(0, .ref a0)] [] S (some (.int r)) S' := by
  unfold fnX10_seesWho at h
  refine re_aloadn (pc := 0) 0 (by decide +kernel : decode cX10_seesWho 0 = .ok (.aload_n 0, 1)) rfl ?_
  obtain ⟨a1_, g2_, h⟩ := rv_b_e h
  refine re_gR (pc := 1) g2_ lfX10_9 rfl (by decide +kernel : decode cX10_seesWho 1 = .ok (.getfield 9, 3)) ?_
  refine re_getsW (pc := 4) (i := 22) (by decide) (rw3 99 (by decide +kernel) rfl) (by decide +kernel : decode cX10_seesWho 4 = .ok (.getstatic 114, 3)) ?_
  obtain ⟨u3_, g4_, h⟩ := rv_b_e h
  obtain ⟨x6_, g7_, h⟩ := rv_b_e h
  have m5_ := metX8_isWord n S a1_ 22 _ g7_
  refine re_cV (pc := 7) [.ref 22] m5_ (rv_okl.k ⟨rfl, rfl⟩) (rv_up.rf _ _) (by decide) (rv_ck_e g4_) ⟨by decide, rfl⟩ (Nat.le_of_ble_eq_true rfl) lVX10_117 rfl (by decide +kernel : decode cX10_seesWho 7 = .ok (.invokevirtual 117, 3)) ?_
  rcases rv_if_e h with ⟨g8_, h⟩ | ⟨g8_, h⟩
  · refine re_if_ne_f (pc := 10) 22 (by decide +kernel : decode cX10_seesWho 10 = .ok (.ifCond .ne 12, 3)) (by decide) g8_ ?_
    refine re_aloadn (pc := 13) 0 (by decide +kernel : decode cX10_seesWho 13 = .ok (.aload_n 0, 1)) rfl ?_
    obtain ⟨a37_, g38_, h⟩ := rv_b_e h
    refine re_gR (pc := 14) g38_ lfX10_9 rfl (by decide +kernel : decode cX10_seesWho 14 = .ok (.getfield 9, 3)) ?_
    refine re_iconst (pc := 17) (1 : Int32) (by decide +kernel : decode cX10_seesWho 17 = .ok (.iconst 1, 1)) (by decide) ?_
    obtain ⟨u39_, g40_, h⟩ := rv_b_e h
    obtain ⟨x42_, S43_, g44_, h⟩ := rv_bp_e h
    have m41_ := metX8_fail n S a37_ (1 : Int32) _ _ g44_
    have z45_ : rv_same S S43_ := m41_.sh rfl
    refine re_cV (pc := 18) [.int (1 : Int32)] m41_ (rv_okl.k z45_) (rv_up.sh z45_) (by decide) (rv_ck_e g40_) ⟨by decide, rfl⟩ (Nat.le_of_ble_eq_true rfl) lVX10_34 rfl (by decide +kernel : decode cX10_seesWho 18 = .ok (.invokevirtual 34, 3)) ?_
    obtain ⟨b_, gb_, h⟩ := rv_b_e h
    obtain ⟨gb1_, gb2_⟩ := rv_bo_e gb_
    refine re_nI (pc := 21) gb1_ ?_
    cases h
    exact re_iret (fun ty hty => by cases hty; exact gb2_) (by decide +kernel : decode cX10_seesWho 21 = .ok (.ireturn, 1))
  · refine re_if_ne_t (pc := 10) 22 (by decide +kernel : decode cX10_seesWho 10 = .ok (.ifCond .ne 12, 3)) (by decide) g8_ ?_
    refine re_aloadn (pc := 22) 0 (by decide +kernel : decode cX10_seesWho 22 = .ok (.aload_n 0, 1)) rfl ?_
    refine re_aloadn (pc := 23) 0 (by decide +kernel : decode cX10_seesWho 23 = .ok (.aload_n 0, 1)) rfl ?_
    obtain ⟨a9_, g10_, h⟩ := rv_b_e h
    refine re_gR (pc := 24) g10_ lfX10_15 rfl (by decide +kernel : decode cX10_seesWho 24 = .ok (.getfield 15, 3)) ?_
    obtain ⟨a11_, g12_, h⟩ := rv_b_e h
    refine re_gR (pc := 27) g12_ lfX10_107 rfl (by decide +kernel : decode cX10_seesWho 27 = .ok (.getfield 107, 3)) ?_
    refine re_aloadn (pc := 30) 0 (by decide +kernel : decode cX10_seesWho 30 = .ok (.aload_n 0, 1)) rfl ?_
    obtain ⟨a13_, g14_, h⟩ := rv_b_e h
    refine re_gR (pc := 31) g14_ lfX10_9 rfl (by decide +kernel : decode cX10_seesWho 31 = .ok (.getfield 9, 3)) ?_
    obtain ⟨x15_, g16_, h⟩ := rv_b_e h
    refine re_gL (pc := 34) g16_ lfX10_121 rfl (by decide +kernel : decode cX10_seesWho 34 = .ok (.getfield 121, 3)) ?_
    obtain ⟨u17_, g18_, h⟩ := rv_b_e h
    obtain ⟨x20_, g21_, h⟩ := rv_b_e h
    have m19_ := metX1_find n S a11_ x15_ _ g21_
    refine re_cV (pc := 37) [.long x15_] m19_ (rv_okl.k ⟨rfl, rfl⟩) (rv_up.rf _ _) (by decide) (rv_ck_e g18_) ⟨by decide, rfl⟩ (Nat.le_of_ble_eq_true rfl) lVX10_125 rfl (by decide +kernel : decode cX10_seesWho 37 = .ok (.invokevirtual 125, 3)) ?_
    obtain ⟨S22_, g23_, h⟩ := rv_b_e h
    refine re_pI (pc := 40) g23_ lfX10_149 rfl rfl rfl rfl (by decide +kernel : decode cX10_seesWho 40 = .ok (.putfield 149, 3)) ?_
    refine re_aloadn (pc := 43) 0 (by decide +kernel : decode cX10_seesWho 43 = .ok (.aload_n 0, 1)) rfl ?_
    obtain ⟨x24_, g25_, h⟩ := rv_b_e h
    refine re_gI (pc := 44) g25_ lfX10_149 rfl (by decide +kernel : decode cX10_seesWho 44 = .ok (.getfield 149, 3)) ?_
    refine re_iconst (pc := 47) (-1 : Int32) (by decide +kernel : decode cX10_seesWho 47 = .ok (.iconst (-1), 1)) (by decide) ?_
    rcases rv_if_e h with ⟨g26_, h⟩ | ⟨g26_, h⟩
    · refine re_icmp_ne_f (pc := 48) 62 (by decide +kernel : decode cX10_seesWho 48 = .ok (.if_icmp .ne 14, 3)) (by decide) g26_ ?_
      refine re_aloadn (pc := 51) 0 (by decide +kernel : decode cX10_seesWho 51 = .ok (.aload_n 0, 1)) rfl ?_
      obtain ⟨a27_, g28_, h⟩ := rv_b_e h
      refine re_gR (pc := 52) g28_ lfX10_9 rfl (by decide +kernel : decode cX10_seesWho 52 = .ok (.getfield 9, 3)) ?_
      refine re_iconst (pc := 55) (3 : Int32) (by decide +kernel : decode cX10_seesWho 55 = .ok (.iconst 3, 1)) (by decide) ?_
      obtain ⟨u29_, g30_, h⟩ := rv_b_e h
      obtain ⟨x32_, S33_, g34_, h⟩ := rv_bp_e h
      have m31_ := metX8_fail n S22_ a27_ (3 : Int32) _ _ g34_
      have z35_ : rv_same S22_ S33_ := m31_.sh rfl
      refine re_cV (pc := 56) [.int (3 : Int32)] m31_ (rv_okl.k z35_) (rv_up.sh z35_) (by decide) (rv_ck_e g30_) ⟨by decide, rfl⟩ (Nat.le_of_ble_eq_true rfl) lVX10_34 rfl (by decide +kernel : decode cX10_seesWho 56 = .ok (.invokevirtual 34, 3)) ?_
      rcases rv_if_e h with ⟨g36_, h⟩ | ⟨g36_, h⟩
      · refine re_if_eq_t (pc := 59) 66 (by decide +kernel : decode cX10_seesWho 59 = .ok (.ifCond .eq 7, 3)) (by decide) g36_ ?_
        refine re_iconst (pc := 66) (0 : Int32) (by decide +kernel : decode cX10_seesWho 66 = .ok (.iconst 0, 1)) (by decide) ?_
        cases h
        exact re_iret (fun ty hty => by cases hty; rfl) (by decide +kernel : decode cX10_seesWho 67 = .ok (.ireturn, 1))
      · refine re_if_eq_f (pc := 59) 66 (by decide +kernel : decode cX10_seesWho 59 = .ok (.ifCond .eq 7, 3)) (by decide) g36_ ?_
        refine re_iconst (pc := 62) (1 : Int32) (by decide +kernel : decode cX10_seesWho 62 = .ok (.iconst 1, 1)) (by decide) ?_
        refine re_goto (pc := 63) 67 (by decide +kernel : decode cX10_seesWho 63 = .ok (.goto 4, 3)) (by decide) ?_
        cases h
        exact re_iret (fun ty hty => by cases hty; rfl) (by decide +kernel : decode cX10_seesWho 67 = .ok (.ireturn, 1))
    · refine re_icmp_ne_t (pc := 48) 62 (by decide +kernel : decode cX10_seesWho 48 = .ok (.if_icmp .ne 14, 3)) (by decide) g26_ ?_
      refine re_iconst (pc := 62) (1 : Int32) (by decide +kernel : decode cX10_seesWho 62 = .ok (.iconst 1, 1)) (by decide) ?_
      refine re_goto (pc := 63) 67 (by decide +kernel : decode cX10_seesWho 63 = .ok (.goto 4, 3)) (by decide) ?_
      cases h
      exact re_iret (fun ty hty => by cases hty; rfl) (by decide +kernel : decode cX10_seesWho 67 = .ok (.ireturn, 1))
theorem metX10_seesWho (n : Nat) (S : rvS) (a0 : Nat) (r : Int32) (S' : rvS) (h : fnX10_seesWho n S a0 = some (r, S')) : rv_Met yX10_seesWho mX10_seesWho 1 [.ref a0] S (some (.int r)) S' := rv_Met.of ⟨by decide +kernel, rfl, (fun z => by first | rfl | cases z), rfl⟩ (Nat.le_of_ble_eq_true rfl) rfl (eX10_seesWho_in n S a0 r S' h)
noncomputable def cX10_readCoin_119 (n : Nat) (S : rvS) (a0 : Nat) : Option (Int32 × rvS) :=
  (rv_gR S 9 a0 0).bind fun a1_ =>
  (rv_ck S 7 a1_).bind fun u3_ =>
  rv_bp (fnX8_fail n S a1_ (4 : Int32)) fun x6_ S7_ =>
  (rv_bo x6_).bind fun b_ =>
  some (b_, S7_)
set_option maxRecDepth 20000 in
set_option maxHeartbeats 4000000 in
theorem eX10_readCoin_119 (n : Nat) (S : rvS) (a0 : Nat) (r : Int32) (S' : rvS) (h : cX10_readCoin_119 n S a0 = some (r, S')) : rv_Ev mX10_readCoin 4 119 [(0, .ref a0)] [] S (some (.int r)) S' := by
  unfold cX10_readCoin_119 at h
  refine re_aloadn (pc := 119) 0 (by decide +kernel : decode cX10_readCoin 119 = .ok (.aload_n 0, 1)) rfl ?_
  obtain ⟨a1_, g2_, h⟩ := rv_b_e h
  refine re_gR (pc := 120) g2_ lfX10_9 rfl (by decide +kernel : decode cX10_readCoin 120 = .ok (.getfield 9, 3)) ?_
  refine re_iconst (pc := 123) (4 : Int32) (by decide +kernel : decode cX10_readCoin 123 = .ok (.iconst 4, 1)) (by decide) ?_
  obtain ⟨u3_, g4_, h⟩ := rv_b_e h
  obtain ⟨x6_, S7_, g8_, h⟩ := rv_bp_e h
  have m5_ := metX8_fail n S a1_ (4 : Int32) _ _ g8_
  have z9_ : rv_same S S7_ := m5_.sh rfl
  refine re_cV (pc := 124) [.int (4 : Int32)] m5_ (rv_okl.k z9_) (rv_up.sh z9_) (by decide) (rv_ck_e g4_) ⟨by decide, rfl⟩ (Nat.le_of_ble_eq_true rfl) lVX10_34 rfl (by decide +kernel : decode cX10_readCoin 124 = .ok (.invokevirtual 34, 3)) ?_
  obtain ⟨b_, gb_, h⟩ := rv_b_e h
  obtain ⟨gb1_, gb2_⟩ := rv_bo_e gb_
  refine re_nI (pc := 127) gb1_ ?_
  cases h
  exact re_iret (fun ty hty => by cases hty; exact gb2_) (by decide +kernel : decode cX10_readCoin 127 = .ok (.ireturn, 1))
noncomputable def cX10_readCoin_80 (n : Nat) : Nat → rvS → Nat → Int32 → Int32 → Option (Int32 × rvS)
  | 0, _, _, _, _ => none
  | k + 1, S, a0, x1, x2 =>
    if (3 : Int32) < x2 then (
      some ((1 : Int32), S))
    else (
      (rv_gR S 9 a0 0).bind fun a2_ =>
      (rv_gI S 7 a2_ 4).bind fun x4_ =>
      if x4_ = (2 : Int32) then (
        (rv_ck S 9 a0).bind fun u7_ =>
        rv_bp (fnX10_seesWho n S a0) fun x10_ S11_ =>
        if x10_ = 0 then (
          some ((0 : Int32), S11_))
        else (
          (rv_gR S11_ 9 a0 1).bind fun a15_ =>
          (rv_gR S11_ 8 a15_ 1).bind fun a17_ =>
          (rv_gI S11_ 5 a17_ 1).bind fun x19_ =>
          if x2 < x19_ then (
            (rv_gR S11_ 9 a0 1).bind fun a22_ =>
            (rv_gR S11_ 8 a22_ 1).bind fun a24_ =>
            (rv_gI S11_ 9 a0 4).bind fun x26_ =>
            (rv_ck S11_ 5 a24_).bind fun u28_ =>
            (fnX6_scratch n S11_ a24_ x1 x2 x26_).bind fun S31_ =>
            (rv_gR S31_ 9 a0 0).bind fun a34_ =>
            (rv_ck S31_ 7 a34_).bind fun u36_ =>
            (fnX8_next n S31_ a34_).bind fun S39_ =>
            rv_lt (x2 + (1)) fun x42_ =>
            cX10_readCoin_80 n k S39_ a0 x1 x42_)
          else (
            cX10_readCoin_119 n S11_ a0)))
      else (
        some ((1 : Int32), S)))
set_option maxRecDepth 20000 in
set_option maxHeartbeats 4000000 in
theorem eX10_readCoin_80 (n : Nat) : ∀ (k : Nat) (S : rvS) (a0 : Nat) (x1 : Int32) (x2 : Int32) (r : Int32) (S' : rvS), cX10_readCoin_80 n k S a0 x1 x2 = some (r, S') → rv_Ev mX10_readCoin 4 80 [(0, .ref a0), (1, .int x1), (2, .int x2)] [] S (some (.int r)) S' := by
  intro k
  induction k with
  | zero => intro S a0 x1 x2 r S' h; exact absurd h (by simp [cX10_readCoin_80])
  | succ k ih =>
    intro S a0 x1 x2 r S' h
    unfold cX10_readCoin_80 at h
    refine re_iloadn (pc := 80) 2 (by decide +kernel : decode cX10_readCoin 80 = .ok (.iload_n 2, 1)) rfl ?_
    refine re_iconst (pc := 81) (3 : Int32) (by decide +kernel : decode cX10_readCoin 81 = .ok (.iconst 3, 1)) (by decide) ?_
    rcases rv_if_e h with ⟨g1_, h⟩ | ⟨g1_, h⟩
    · refine re_icmp_gt_t (pc := 82) 157 (by decide +kernel : decode cX10_readCoin 82 = .ok (.if_icmp .gt 75, 3)) (by decide) g1_ ?_
      refine re_iconst (pc := 157) (1 : Int32) (by decide +kernel : decode cX10_readCoin 157 = .ok (.iconst 1, 1)) (by decide) ?_
      cases h
      exact re_iret (fun ty hty => by cases hty; rfl) (by decide +kernel : decode cX10_readCoin 158 = .ok (.ireturn, 1))
    · refine re_icmp_gt_f (pc := 82) 157 (by decide +kernel : decode cX10_readCoin 82 = .ok (.if_icmp .gt 75, 3)) (by decide) g1_ ?_
      refine re_aloadn (pc := 85) 0 (by decide +kernel : decode cX10_readCoin 85 = .ok (.aload_n 0, 1)) rfl ?_
      obtain ⟨a2_, g3_, h⟩ := rv_b_e h
      refine re_gR (pc := 86) g3_ lfX10_9 rfl (by decide +kernel : decode cX10_readCoin 86 = .ok (.getfield 9, 3)) ?_
      obtain ⟨x4_, g5_, h⟩ := rv_b_e h
      refine re_gI (pc := 89) g5_ lfX10_24 rfl (by decide +kernel : decode cX10_readCoin 89 = .ok (.getfield 24, 3)) ?_
      refine re_iconst (pc := 92) (2 : Int32) (by decide +kernel : decode cX10_readCoin 92 = .ok (.iconst 2, 1)) (by decide) ?_
      rcases rv_if_e h with ⟨g6_, h⟩ | ⟨g6_, h⟩
      · refine re_icmp_ne_f (pc := 93) 157 (by decide +kernel : decode cX10_readCoin 93 = .ok (.if_icmp .ne 64, 3)) (by decide) g6_ ?_
        refine re_aloadn (pc := 96) 0 (by decide +kernel : decode cX10_readCoin 96 = .ok (.aload_n 0, 1)) rfl ?_
        obtain ⟨u7_, g8_, h⟩ := rv_b_e h
        obtain ⟨x10_, S11_, g12_, h⟩ := rv_bp_e h
        have m9_ := metX10_seesWho n S a0 _ _ g12_
        have z13_ : rv_same S S11_ := m9_.sh rfl
        refine re_cV (pc := 97) [] m9_ (rv_okl.k z13_) (rv_up.sh z13_) (by decide) (rv_ck_e g8_) ⟨by decide, rfl⟩ (Nat.le_of_ble_eq_true rfl) lVX10_146 rfl (by decide +kernel : decode cX10_readCoin 97 = .ok (.invokevirtual 146, 3)) ?_
        rcases rv_if_e h with ⟨g14_, h⟩ | ⟨g14_, h⟩
        · refine re_if_ne_f (pc := 100) 105 (by decide +kernel : decode cX10_readCoin 100 = .ok (.ifCond .ne 5, 3)) (by decide) g14_ ?_
          refine re_iconst (pc := 103) (0 : Int32) (by decide +kernel : decode cX10_readCoin 103 = .ok (.iconst 0, 1)) (by decide) ?_
          cases h
          exact re_iret (fun ty hty => by cases hty; rfl) (by decide +kernel : decode cX10_readCoin 104 = .ok (.ireturn, 1))
        · refine re_if_ne_t (pc := 100) 105 (by decide +kernel : decode cX10_readCoin 100 = .ok (.ifCond .ne 5, 3)) (by decide) g14_ ?_
          refine re_iloadn (pc := 105) 2 (by decide +kernel : decode cX10_readCoin 105 = .ok (.iload_n 2, 1)) rfl ?_
          refine re_aloadn (pc := 106) 0 (by decide +kernel : decode cX10_readCoin 106 = .ok (.aload_n 0, 1)) rfl ?_
          obtain ⟨a15_, g16_, h⟩ := rv_b_e h
          refine re_gR (pc := 107) g16_ lfX10_15 rfl (by decide +kernel : decode cX10_readCoin 107 = .ok (.getfield 15, 3)) ?_
          obtain ⟨a17_, g18_, h⟩ := rv_b_e h
          refine re_gR (pc := 110) g18_ lfX10_88 rfl (by decide +kernel : decode cX10_readCoin 110 = .ok (.getfield 88, 3)) ?_
          obtain ⟨x19_, g20_, h⟩ := rv_b_e h
          refine re_gI (pc := 113) g20_ lfX10_104 rfl (by decide +kernel : decode cX10_readCoin 113 = .ok (.getfield 104, 3)) ?_
          rcases rv_if_e h with ⟨g21_, h⟩ | ⟨g21_, h⟩
          · refine re_icmp_lt_t (pc := 116) 128 (by decide +kernel : decode cX10_readCoin 116 = .ok (.if_icmp .lt 12, 3)) (by decide) g21_ ?_
            refine re_aloadn (pc := 128) 0 (by decide +kernel : decode cX10_readCoin 128 = .ok (.aload_n 0, 1)) rfl ?_
            obtain ⟨a22_, g23_, h⟩ := rv_b_e h
            refine re_gR (pc := 129) g23_ lfX10_15 rfl (by decide +kernel : decode cX10_readCoin 129 = .ok (.getfield 15, 3)) ?_
            obtain ⟨a24_, g25_, h⟩ := rv_b_e h
            refine re_gR (pc := 132) g25_ lfX10_88 rfl (by decide +kernel : decode cX10_readCoin 132 = .ok (.getfield 88, 3)) ?_
            refine re_iloadn (pc := 135) 1 (by decide +kernel : decode cX10_readCoin 135 = .ok (.iload_n 1, 1)) rfl ?_
            refine re_iloadn (pc := 136) 2 (by decide +kernel : decode cX10_readCoin 136 = .ok (.iload_n 2, 1)) rfl ?_
            refine re_aloadn (pc := 137) 0 (by decide +kernel : decode cX10_readCoin 137 = .ok (.aload_n 0, 1)) rfl ?_
            obtain ⟨x26_, g27_, h⟩ := rv_b_e h
            refine re_gI (pc := 138) g27_ lfX10_149 rfl (by decide +kernel : decode cX10_readCoin 138 = .ok (.getfield 149, 3)) ?_
            obtain ⟨u28_, g29_, h⟩ := rv_b_e h
            obtain ⟨S31_, g32_, h⟩ := rv_b_e h
            have m30_ := metX6_scratch n S11_ a24_ x1 x2 x26_ _ g32_
            have z33_ : rv_same S11_ S31_ := m30_.sh rfl
            refine re_cV (pc := 141) [.int x1, .int x2, .int x26_] m30_ (rv_okl.k z33_) (rv_up.sh z33_) (by decide) (rv_ck_e g29_) ⟨by decide, rfl⟩ (Nat.le_of_ble_eq_true rfl) lVX10_155 rfl (by decide +kernel : decode cX10_readCoin 141 = .ok (.invokevirtual 155, 3)) ?_
            refine re_aloadn (pc := 144) 0 (by decide +kernel : decode cX10_readCoin 144 = .ok (.aload_n 0, 1)) rfl ?_
            obtain ⟨a34_, g35_, h⟩ := rv_b_e h
            refine re_gR (pc := 145) g35_ lfX10_9 rfl (by decide +kernel : decode cX10_readCoin 145 = .ok (.getfield 9, 3)) ?_
            obtain ⟨u36_, g37_, h⟩ := rv_b_e h
            obtain ⟨S39_, g40_, h⟩ := rv_b_e h
            have m38_ := metX8_next n S31_ a34_ _ g40_
            have z41_ : rv_same S31_ S39_ := m38_.sh rfl
            refine re_cV (pc := 148) [] m38_ (rv_okl.k z41_) (rv_up.sh z41_) (by decide) (rv_ck_e g37_) ⟨by decide, rfl⟩ (Nat.le_of_ble_eq_true rfl) lVX10_38 rfl (by decide +kernel : decode cX10_readCoin 148 = .ok (.invokevirtual 38, 3)) ?_
            obtain ⟨x42_, g43_, h⟩ := rv_lt_e h
            refine re_iinc (pc := 151) 2 x42_ (lv1 := [(2, .int x42_), (0, .ref a0), (1, .int x1)]) (by decide +kernel : decode cX10_readCoin 151 = .ok (.iinc 2 1, 3)) rfl g43_ (by decide) rfl ?_
            refine re_goto (pc := 154) 80 (by decide +kernel : decode cX10_readCoin 154 = .ok (.goto (-74), 3)) (by decide) ?_
            refine re_sub [1, 2, 0] (lv1 := [(0, .ref a0), (1, .int x1), (2, .int x42_)]) rfl ?_
            exact ih S39_ a0 x1 x42_ _ _ h
          · refine re_icmp_lt_f (pc := 116) 128 (by decide +kernel : decode cX10_readCoin 116 = .ok (.if_icmp .lt 12, 3)) (by decide) g21_ ?_
            refine re_sub [0] (lv1 := [(0, .ref a0)]) rfl ?_
            exact eX10_readCoin_119 n S11_ a0 _ _ h
      · refine re_icmp_ne_t (pc := 93) 157 (by decide +kernel : decode cX10_readCoin 93 = .ok (.if_icmp .ne 64, 3)) (by decide) g6_ ?_
        refine re_iconst (pc := 157) (1 : Int32) (by decide +kernel : decode cX10_readCoin 157 = .ok (.iconst 1, 1)) (by decide) ?_
        cases h
        exact re_iret (fun ty hty => by cases hty; rfl) (by decide +kernel : decode cX10_readCoin 158 = .ok (.ireturn, 1))
noncomputable def fnX10_readCoin (n : Nat) (S : rvS) (a0 : Nat) : Option (Int32 × rvS) :=
  (rv_gR S 9 a0 1).bind fun a1_ =>
  (rv_gR S 8 a1_ 1).bind fun a3_ =>
  (rv_gI S 5 a3_ 0).bind fun x5_ =>
  if x5_ < (40 : Int32) then (
    (rv_gR S 9 a0 0).bind fun a8_ =>
    (rv_ck S 7 a8_).bind fun u10_ =>
    (fnX8_next n S a8_).bind fun S13_ =>
    (rv_ck S13_ 9 a0).bind fun u16_ =>
    rv_bp (fnX10_takesNumber n S13_ a0 (1 : Int32) (99 : Int32)) fun x19_ S20_ =>
    if x19_ = 0 then (
      some ((0 : Int32), S20_))
    else (
      (rv_ck S20_ 9 a0).bind fun u24_ =>
      rv_bp (fnX10_seesWho n S20_ a0) fun x27_ S28_ =>
      if x27_ = 0 then (
        some ((0 : Int32), S28_))
      else (
        (rv_gR S28_ 9 a0 1).bind fun a32_ =>
        (rv_gR S28_ 8 a32_ 1).bind fun a34_ =>
        (rv_gI S28_ 9 a0 3).bind fun x36_ =>
        (rv_gI S28_ 9 a0 4).bind fun x38_ =>
        (rv_ck S28_ 5 a34_).bind fun u40_ =>
        rv_bp (fnX6_add n S28_ a34_ x36_ x38_) fun x43_ S44_ =>
        (rv_gR S44_ 9 a0 0).bind fun a47_ =>
        (rv_ck S44_ 7 a47_).bind fun u49_ =>
        (fnX8_next n S44_ a47_).bind fun S52_ =>
        cX10_readCoin_80 n n S52_ a0 x43_ (0 : Int32))))
  else (
    (rv_gR S 9 a0 0).bind fun a55_ =>
    (rv_ck S 7 a55_).bind fun u57_ =>
    rv_bp (fnX8_fail n S a55_ (4 : Int32)) fun x60_ S61_ =>
    (rv_bo x60_).bind fun b_ =>
    some (b_, S61_))
set_option maxRecDepth 20000 in
set_option maxHeartbeats 4000000 in
theorem eX10_readCoin_in (n : Nat) (S : rvS) (a0 : Nat) (r : Int32) (S' : rvS) (h : fnX10_readCoin n S a0 = some (r, S')) : rv_Ev mX10_readCoin 4 0 [(0, .ref a0)] [] S (some (.int r)) S' := by
  unfold fnX10_readCoin at h
  refine re_aloadn (pc := 0) 0 (by decide +kernel : decode cX10_readCoin 0 = .ok (.aload_n 0, 1)) rfl ?_
  obtain ⟨a1_, g2_, h⟩ := rv_b_e h
  refine re_gR (pc := 1) g2_ lfX10_15 rfl (by decide +kernel : decode cX10_readCoin 1 = .ok (.getfield 15, 3)) ?_
  obtain ⟨a3_, g4_, h⟩ := rv_b_e h
  refine re_gR (pc := 4) g4_ lfX10_88 rfl (by decide +kernel : decode cX10_readCoin 4 = .ok (.getfield 88, 3)) ?_
  obtain ⟨x5_, g6_, h⟩ := rv_b_e h
  refine re_gI (pc := 7) g6_ lfX10_92 rfl (by decide +kernel : decode cX10_readCoin 7 = .ok (.getfield 92, 3)) ?_
  refine re_bipush (pc := 10) (40 : Int32) (by decide +kernel : decode cX10_readCoin 10 = .ok (.bipush 40, 2)) (by decide) ?_
  rcases rv_if_e h with ⟨g7_, h⟩ | ⟨g7_, h⟩
  · refine re_icmp_lt_t (pc := 12) 24 (by decide +kernel : decode cX10_readCoin 12 = .ok (.if_icmp .lt 12, 3)) (by decide) g7_ ?_
    refine re_aloadn (pc := 24) 0 (by decide +kernel : decode cX10_readCoin 24 = .ok (.aload_n 0, 1)) rfl ?_
    obtain ⟨a8_, g9_, h⟩ := rv_b_e h
    refine re_gR (pc := 25) g9_ lfX10_9 rfl (by decide +kernel : decode cX10_readCoin 25 = .ok (.getfield 9, 3)) ?_
    obtain ⟨u10_, g11_, h⟩ := rv_b_e h
    obtain ⟨S13_, g14_, h⟩ := rv_b_e h
    have m12_ := metX8_next n S a8_ _ g14_
    have z15_ : rv_same S S13_ := m12_.sh rfl
    refine re_cV (pc := 28) [] m12_ (rv_okl.k z15_) (rv_up.sh z15_) (by decide) (rv_ck_e g11_) ⟨by decide, rfl⟩ (Nat.le_of_ble_eq_true rfl) lVX10_38 rfl (by decide +kernel : decode cX10_readCoin 28 = .ok (.invokevirtual 38, 3)) ?_
    refine re_aloadn (pc := 31) 0 (by decide +kernel : decode cX10_readCoin 31 = .ok (.aload_n 0, 1)) rfl ?_
    refine re_iconst (pc := 32) (1 : Int32) (by decide +kernel : decode cX10_readCoin 32 = .ok (.iconst 1, 1)) (by decide) ?_
    refine re_bipush (pc := 33) (99 : Int32) (by decide +kernel : decode cX10_readCoin 33 = .ok (.bipush 99, 2)) (by decide) ?_
    obtain ⟨u16_, g17_, h⟩ := rv_b_e h
    obtain ⟨x19_, S20_, g21_, h⟩ := rv_bp_e h
    have m18_ := metX10_takesNumber n S13_ a0 (1 : Int32) (99 : Int32) _ _ g21_
    have z22_ : rv_same S13_ S20_ := m18_.sh rfl
    refine re_cV (pc := 35) [.int (1 : Int32), .int (99 : Int32)] m18_ (rv_okl.k z22_) (rv_up.sh z22_) (by decide) (rv_ck_e g17_) ⟨by decide, rfl⟩ (Nat.le_of_ble_eq_true rfl) lVX10_97 rfl (by decide +kernel : decode cX10_readCoin 35 = .ok (.invokevirtual 97, 3)) ?_
    rcases rv_if_e h with ⟨g23_, h⟩ | ⟨g23_, h⟩
    · refine re_if_ne_f (pc := 38) 43 (by decide +kernel : decode cX10_readCoin 38 = .ok (.ifCond .ne 5, 3)) (by decide) g23_ ?_
      refine re_iconst (pc := 41) (0 : Int32) (by decide +kernel : decode cX10_readCoin 41 = .ok (.iconst 0, 1)) (by decide) ?_
      cases h
      exact re_iret (fun ty hty => by cases hty; rfl) (by decide +kernel : decode cX10_readCoin 42 = .ok (.ireturn, 1))
    · refine re_if_ne_t (pc := 38) 43 (by decide +kernel : decode cX10_readCoin 38 = .ok (.ifCond .ne 5, 3)) (by decide) g23_ ?_
      refine re_aloadn (pc := 43) 0 (by decide +kernel : decode cX10_readCoin 43 = .ok (.aload_n 0, 1)) rfl ?_
      obtain ⟨u24_, g25_, h⟩ := rv_b_e h
      obtain ⟨x27_, S28_, g29_, h⟩ := rv_bp_e h
      have m26_ := metX10_seesWho n S20_ a0 _ _ g29_
      have z30_ : rv_same S20_ S28_ := m26_.sh rfl
      refine re_cV (pc := 44) [] m26_ (rv_okl.k z30_) (rv_up.sh z30_) (by decide) (rv_ck_e g25_) ⟨by decide, rfl⟩ (Nat.le_of_ble_eq_true rfl) lVX10_146 rfl (by decide +kernel : decode cX10_readCoin 44 = .ok (.invokevirtual 146, 3)) ?_
      rcases rv_if_e h with ⟨g31_, h⟩ | ⟨g31_, h⟩
      · refine re_if_ne_f (pc := 47) 52 (by decide +kernel : decode cX10_readCoin 47 = .ok (.ifCond .ne 5, 3)) (by decide) g31_ ?_
        refine re_iconst (pc := 50) (0 : Int32) (by decide +kernel : decode cX10_readCoin 50 = .ok (.iconst 0, 1)) (by decide) ?_
        cases h
        exact re_iret (fun ty hty => by cases hty; rfl) (by decide +kernel : decode cX10_readCoin 51 = .ok (.ireturn, 1))
      · refine re_if_ne_t (pc := 47) 52 (by decide +kernel : decode cX10_readCoin 47 = .ok (.ifCond .ne 5, 3)) (by decide) g31_ ?_
        refine re_aloadn (pc := 52) 0 (by decide +kernel : decode cX10_readCoin 52 = .ok (.aload_n 0, 1)) rfl ?_
        obtain ⟨a32_, g33_, h⟩ := rv_b_e h
        refine re_gR (pc := 53) g33_ lfX10_15 rfl (by decide +kernel : decode cX10_readCoin 53 = .ok (.getfield 15, 3)) ?_
        obtain ⟨a34_, g35_, h⟩ := rv_b_e h
        refine re_gR (pc := 56) g35_ lfX10_88 rfl (by decide +kernel : decode cX10_readCoin 56 = .ok (.getfield 88, 3)) ?_
        refine re_aloadn (pc := 59) 0 (by decide +kernel : decode cX10_readCoin 59 = .ok (.aload_n 0, 1)) rfl ?_
        obtain ⟨x36_, g37_, h⟩ := rv_b_e h
        refine re_gI (pc := 60) g37_ lfX10_101 rfl (by decide +kernel : decode cX10_readCoin 60 = .ok (.getfield 101, 3)) ?_
        refine re_aloadn (pc := 63) 0 (by decide +kernel : decode cX10_readCoin 63 = .ok (.aload_n 0, 1)) rfl ?_
        obtain ⟨x38_, g39_, h⟩ := rv_b_e h
        refine re_gI (pc := 64) g39_ lfX10_149 rfl (by decide +kernel : decode cX10_readCoin 64 = .ok (.getfield 149, 3)) ?_
        obtain ⟨u40_, g41_, h⟩ := rv_b_e h
        obtain ⟨x43_, S44_, g45_, h⟩ := rv_bp_e h
        have m42_ := metX6_add n S28_ a34_ x36_ x38_ _ _ g45_
        have z46_ : rv_same S28_ S44_ := m42_.sh rfl
        refine re_cV (pc := 67) [.int x36_, .int x38_] m42_ (rv_okl.k z46_) (rv_up.sh z46_) (by decide) (rv_ck_e g41_) ⟨by decide, rfl⟩ (Nat.le_of_ble_eq_true rfl) lVX10_152 rfl (by decide +kernel : decode cX10_readCoin 67 = .ok (.invokevirtual 152, 3)) ?_
        refine re_istoren (pc := 70) (lv1 := [(1, .int x43_), (0, .ref a0)]) (by decide +kernel : decode cX10_readCoin 70 = .ok (.istore_n 1, 1)) rfl (by decide) rfl ?_
        refine re_aloadn (pc := 71) 1 (by decide +kernel : decode cX10_readCoin 71 = .ok (.aload_n 0, 1)) rfl ?_
        obtain ⟨a47_, g48_, h⟩ := rv_b_e h
        refine re_gR (pc := 72) g48_ lfX10_9 rfl (by decide +kernel : decode cX10_readCoin 72 = .ok (.getfield 9, 3)) ?_
        obtain ⟨u49_, g50_, h⟩ := rv_b_e h
        obtain ⟨S52_, g53_, h⟩ := rv_b_e h
        have m51_ := metX8_next n S44_ a47_ _ g53_
        have z54_ : rv_same S44_ S52_ := m51_.sh rfl
        refine re_cV (pc := 75) [] m51_ (rv_okl.k z54_) (rv_up.sh z54_) (by decide) (rv_ck_e g50_) ⟨by decide, rfl⟩ (Nat.le_of_ble_eq_true rfl) lVX10_38 rfl (by decide +kernel : decode cX10_readCoin 75 = .ok (.invokevirtual 38, 3)) ?_
        refine re_iconst (pc := 78) (0 : Int32) (by decide +kernel : decode cX10_readCoin 78 = .ok (.iconst 0, 1)) (by decide) ?_
        refine re_istoren (pc := 79) (lv1 := [(2, .int (0 : Int32)), (1, .int x43_), (0, .ref a0)]) (by decide +kernel : decode cX10_readCoin 79 = .ok (.istore_n 2, 1)) rfl (by decide) rfl ?_
        refine re_sub [2, 1, 0] (lv1 := [(0, .ref a0), (1, .int x43_), (2, .int (0 : Int32))]) rfl ?_
        exact eX10_readCoin_80 n n S52_ a0 x43_ (0 : Int32) _ _ h
  · refine re_icmp_lt_f (pc := 12) 24 (by decide +kernel : decode cX10_readCoin 12 = .ok (.if_icmp .lt 12, 3)) (by decide) g7_ ?_
    refine re_aloadn (pc := 15) 0 (by decide +kernel : decode cX10_readCoin 15 = .ok (.aload_n 0, 1)) rfl ?_
    obtain ⟨a55_, g56_, h⟩ := rv_b_e h
    refine re_gR (pc := 16) g56_ lfX10_9 rfl (by decide +kernel : decode cX10_readCoin 16 = .ok (.getfield 9, 3)) ?_
    refine re_iconst (pc := 19) (4 : Int32) (by decide +kernel : decode cX10_readCoin 19 = .ok (.iconst 4, 1)) (by decide) ?_
    obtain ⟨u57_, g58_, h⟩ := rv_b_e h
    obtain ⟨x60_, S61_, g62_, h⟩ := rv_bp_e h
    have m59_ := metX8_fail n S a55_ (4 : Int32) _ _ g62_
    have z63_ : rv_same S S61_ := m59_.sh rfl
    refine re_cV (pc := 20) [.int (4 : Int32)] m59_ (rv_okl.k z63_) (rv_up.sh z63_) (by decide) (rv_ck_e g58_) ⟨by decide, rfl⟩ (Nat.le_of_ble_eq_true rfl) lVX10_34 rfl (by decide +kernel : decode cX10_readCoin 20 = .ok (.invokevirtual 34, 3)) ?_
    obtain ⟨b_, gb_, h⟩ := rv_b_e h
    obtain ⟨gb1_, gb2_⟩ := rv_bo_e gb_
    refine re_nI (pc := 23) gb1_ ?_
    cases h
    exact re_iret (fun ty hty => by cases hty; exact gb2_) (by decide +kernel : decode cX10_readCoin 23 = .ok (.ireturn, 1))
theorem metX10_readCoin (n : Nat) (S : rvS) (a0 : Nat) (r : Int32) (S' : rvS) (h : fnX10_readCoin n S a0 = some (r, S')) : rv_Met yX10_readCoin mX10_readCoin 4 [.ref a0] S (some (.int r)) S' := rv_Met.of ⟨by decide +kernel, rfl, (fun z => by first | rfl | cases z), rfl⟩ (Nat.le_of_ble_eq_true rfl) rfl (eX10_readCoin_in n S a0 r S' h)
noncomputable def fnX10_readDebt (n : Nat) (S : rvS) (a0 : Nat) : Option (Int32 × rvS) :=
  (rv_gR S 9 a0 1).bind fun a1_ =>
  (rv_gI S 8 a1_ 6).bind fun x3_ =>
  if x3_ < (12 : Int32) then (
    (rv_gR S 9 a0 0).bind fun a6_ =>
    (rv_ck S 7 a6_).bind fun u8_ =>
    (fnX8_next n S a6_).bind fun S11_ =>
    (rv_ck S11_ 9 a0).bind fun u14_ =>
    rv_bp (fnX10_seesWho n S11_ a0) fun x17_ S18_ =>
    if x17_ = 0 then (
      some ((0 : Int32), S18_))
    else (
      (rv_gI S18_ 9 a0 4).bind fun x22_ =>
      (rv_gR S18_ 9 a0 0).bind fun a24_ =>
      (rv_ck S18_ 7 a24_).bind fun u26_ =>
      (fnX8_next n S18_ a24_).bind fun S29_ =>
      (rv_ck S29_ 9 a0).bind fun u32_ =>
      rv_bp (fnX10_seesWho n S29_ a0) fun x35_ S36_ =>
      if x35_ = 0 then (
        some ((0 : Int32), S36_))
      else (
        (rv_gI S36_ 9 a0 4).bind fun x40_ =>
        if x40_ = x22_ then (
          (rv_gR S36_ 9 a0 0).bind fun a71_ =>
          (rv_ck S36_ 7 a71_).bind fun u73_ =>
          rv_bp (fnX8_fail n S36_ a71_ (3 : Int32)) fun x76_ S77_ =>
          (rv_bo x76_).bind fun b_ =>
          some (b_, S77_))
        else (
          (rv_gR S36_ 9 a0 0).bind fun a43_ =>
          (rv_ck S36_ 7 a43_).bind fun u45_ =>
          (fnX8_next n S36_ a43_).bind fun S48_ =>
          (rv_ck S48_ 9 a0).bind fun u51_ =>
          rv_bp (fnX10_takesNumber n S48_ a0 (1 : Int32) (999 : Int32)) fun x54_ S55_ =>
          if x54_ = 0 then (
            some ((0 : Int32), S55_))
          else (
            (rv_gR S55_ 9 a0 1).bind fun a59_ =>
            (rv_gI S55_ 9 a0 4).bind fun x61_ =>
            (rv_gI S55_ 9 a0 3).bind fun x63_ =>
            (rv_ck S55_ 8 a59_).bind fun u65_ =>
            (fnX9_owe n S55_ a59_ x22_ x61_ x63_).bind fun S68_ =>
            some ((1 : Int32), S68_))))))
  else (
    (rv_gR S 9 a0 0).bind fun a80_ =>
    (rv_ck S 7 a80_).bind fun u82_ =>
    rv_bp (fnX8_fail n S a80_ (4 : Int32)) fun x85_ S86_ =>
    (rv_bo x85_).bind fun b_ =>
    some (b_, S86_))
set_option maxRecDepth 20000 in
set_option maxHeartbeats 4000000 in
theorem eX10_readDebt_in (n : Nat) (S : rvS) (a0 : Nat) (r : Int32) (S' : rvS) (h : fnX10_readDebt n S a0 = some (r, S')) : rv_Ev mX10_readDebt 4 0 [(0, .ref a0)] [] S (some (.int r)) S' := by
  unfold fnX10_readDebt at h
  refine re_aloadn (pc := 0) 0 (by decide +kernel : decode cX10_readDebt 0 = .ok (.aload_n 0, 1)) rfl ?_
  obtain ⟨a1_, g2_, h⟩ := rv_b_e h
  refine re_gR (pc := 1) g2_ lfX10_15 rfl (by decide +kernel : decode cX10_readDebt 1 = .ok (.getfield 15, 3)) ?_
  obtain ⟨x3_, g4_, h⟩ := rv_b_e h
  refine re_gI (pc := 4) g4_ lfX10_159 rfl (by decide +kernel : decode cX10_readDebt 4 = .ok (.getfield 159, 3)) ?_
  refine re_bipush (pc := 7) (12 : Int32) (by decide +kernel : decode cX10_readDebt 7 = .ok (.bipush 12, 2)) (by decide) ?_
  rcases rv_if_e h with ⟨g5_, h⟩ | ⟨g5_, h⟩
  · refine re_icmp_lt_t (pc := 9) 21 (by decide +kernel : decode cX10_readDebt 9 = .ok (.if_icmp .lt 12, 3)) (by decide) g5_ ?_
    refine re_aloadn (pc := 21) 0 (by decide +kernel : decode cX10_readDebt 21 = .ok (.aload_n 0, 1)) rfl ?_
    obtain ⟨a6_, g7_, h⟩ := rv_b_e h
    refine re_gR (pc := 22) g7_ lfX10_9 rfl (by decide +kernel : decode cX10_readDebt 22 = .ok (.getfield 9, 3)) ?_
    obtain ⟨u8_, g9_, h⟩ := rv_b_e h
    obtain ⟨S11_, g12_, h⟩ := rv_b_e h
    have m10_ := metX8_next n S a6_ _ g12_
    have z13_ : rv_same S S11_ := m10_.sh rfl
    refine re_cV (pc := 25) [] m10_ (rv_okl.k z13_) (rv_up.sh z13_) (by decide) (rv_ck_e g9_) ⟨by decide, rfl⟩ (Nat.le_of_ble_eq_true rfl) lVX10_38 rfl (by decide +kernel : decode cX10_readDebt 25 = .ok (.invokevirtual 38, 3)) ?_
    refine re_aloadn (pc := 28) 0 (by decide +kernel : decode cX10_readDebt 28 = .ok (.aload_n 0, 1)) rfl ?_
    obtain ⟨u14_, g15_, h⟩ := rv_b_e h
    obtain ⟨x17_, S18_, g19_, h⟩ := rv_bp_e h
    have m16_ := metX10_seesWho n S11_ a0 _ _ g19_
    have z20_ : rv_same S11_ S18_ := m16_.sh rfl
    refine re_cV (pc := 29) [] m16_ (rv_okl.k z20_) (rv_up.sh z20_) (by decide) (rv_ck_e g15_) ⟨by decide, rfl⟩ (Nat.le_of_ble_eq_true rfl) lVX10_146 rfl (by decide +kernel : decode cX10_readDebt 29 = .ok (.invokevirtual 146, 3)) ?_
    rcases rv_if_e h with ⟨g21_, h⟩ | ⟨g21_, h⟩
    · refine re_if_ne_f (pc := 32) 37 (by decide +kernel : decode cX10_readDebt 32 = .ok (.ifCond .ne 5, 3)) (by decide) g21_ ?_
      refine re_iconst (pc := 35) (0 : Int32) (by decide +kernel : decode cX10_readDebt 35 = .ok (.iconst 0, 1)) (by decide) ?_
      cases h
      exact re_iret (fun ty hty => by cases hty; rfl) (by decide +kernel : decode cX10_readDebt 36 = .ok (.ireturn, 1))
    · refine re_if_ne_t (pc := 32) 37 (by decide +kernel : decode cX10_readDebt 32 = .ok (.ifCond .ne 5, 3)) (by decide) g21_ ?_
      refine re_aloadn (pc := 37) 0 (by decide +kernel : decode cX10_readDebt 37 = .ok (.aload_n 0, 1)) rfl ?_
      obtain ⟨x22_, g23_, h⟩ := rv_b_e h
      refine re_gI (pc := 38) g23_ lfX10_149 rfl (by decide +kernel : decode cX10_readDebt 38 = .ok (.getfield 149, 3)) ?_
      refine re_istoren (pc := 41) (lv1 := [(1, .int x22_), (0, .ref a0)]) (by decide +kernel : decode cX10_readDebt 41 = .ok (.istore_n 1, 1)) rfl (by decide) rfl ?_
      refine re_aloadn (pc := 42) 1 (by decide +kernel : decode cX10_readDebt 42 = .ok (.aload_n 0, 1)) rfl ?_
      obtain ⟨a24_, g25_, h⟩ := rv_b_e h
      refine re_gR (pc := 43) g25_ lfX10_9 rfl (by decide +kernel : decode cX10_readDebt 43 = .ok (.getfield 9, 3)) ?_
      obtain ⟨u26_, g27_, h⟩ := rv_b_e h
      obtain ⟨S29_, g30_, h⟩ := rv_b_e h
      have m28_ := metX8_next n S18_ a24_ _ g30_
      have z31_ : rv_same S18_ S29_ := m28_.sh rfl
      refine re_cV (pc := 46) [] m28_ (rv_okl.k z31_) (rv_up.sh z31_) (by decide) (rv_ck_e g27_) ⟨by decide, rfl⟩ (Nat.le_of_ble_eq_true rfl) lVX10_38 rfl (by decide +kernel : decode cX10_readDebt 46 = .ok (.invokevirtual 38, 3)) ?_
      refine re_aloadn (pc := 49) 1 (by decide +kernel : decode cX10_readDebt 49 = .ok (.aload_n 0, 1)) rfl ?_
      obtain ⟨u32_, g33_, h⟩ := rv_b_e h
      obtain ⟨x35_, S36_, g37_, h⟩ := rv_bp_e h
      have m34_ := metX10_seesWho n S29_ a0 _ _ g37_
      have z38_ : rv_same S29_ S36_ := m34_.sh rfl
      refine re_cV (pc := 50) [] m34_ (rv_okl.k z38_) (rv_up.sh z38_) (by decide) (rv_ck_e g33_) ⟨by decide, rfl⟩ (Nat.le_of_ble_eq_true rfl) lVX10_146 rfl (by decide +kernel : decode cX10_readDebt 50 = .ok (.invokevirtual 146, 3)) ?_
      rcases rv_if_e h with ⟨g39_, h⟩ | ⟨g39_, h⟩
      · refine re_if_ne_f (pc := 53) 58 (by decide +kernel : decode cX10_readDebt 53 = .ok (.ifCond .ne 5, 3)) (by decide) g39_ ?_
        refine re_iconst (pc := 56) (0 : Int32) (by decide +kernel : decode cX10_readDebt 56 = .ok (.iconst 0, 1)) (by decide) ?_
        cases h
        exact re_iret (fun ty hty => by cases hty; rfl) (by decide +kernel : decode cX10_readDebt 57 = .ok (.ireturn, 1))
      · refine re_if_ne_t (pc := 53) 58 (by decide +kernel : decode cX10_readDebt 53 = .ok (.ifCond .ne 5, 3)) (by decide) g39_ ?_
        refine re_aloadn (pc := 58) 1 (by decide +kernel : decode cX10_readDebt 58 = .ok (.aload_n 0, 1)) rfl ?_
        obtain ⟨x40_, g41_, h⟩ := rv_b_e h
        refine re_gI (pc := 59) g41_ lfX10_149 rfl (by decide +kernel : decode cX10_readDebt 59 = .ok (.getfield 149, 3)) ?_
        refine re_iloadn (pc := 62) 0 (by decide +kernel : decode cX10_readDebt 62 = .ok (.iload_n 1, 1)) rfl ?_
        rcases rv_if_e h with ⟨g42_, h⟩ | ⟨g42_, h⟩
        · refine re_icmp_ne_f (pc := 63) 75 (by decide +kernel : decode cX10_readDebt 63 = .ok (.if_icmp .ne 12, 3)) (by decide) g42_ ?_
          refine re_aloadn (pc := 66) 1 (by decide +kernel : decode cX10_readDebt 66 = .ok (.aload_n 0, 1)) rfl ?_
          obtain ⟨a71_, g72_, h⟩ := rv_b_e h
          refine re_gR (pc := 67) g72_ lfX10_9 rfl (by decide +kernel : decode cX10_readDebt 67 = .ok (.getfield 9, 3)) ?_
          refine re_iconst (pc := 70) (3 : Int32) (by decide +kernel : decode cX10_readDebt 70 = .ok (.iconst 3, 1)) (by decide) ?_
          obtain ⟨u73_, g74_, h⟩ := rv_b_e h
          obtain ⟨x76_, S77_, g78_, h⟩ := rv_bp_e h
          have m75_ := metX8_fail n S36_ a71_ (3 : Int32) _ _ g78_
          have z79_ : rv_same S36_ S77_ := m75_.sh rfl
          refine re_cV (pc := 71) [.int (3 : Int32)] m75_ (rv_okl.k z79_) (rv_up.sh z79_) (by decide) (rv_ck_e g74_) ⟨by decide, rfl⟩ (Nat.le_of_ble_eq_true rfl) lVX10_34 rfl (by decide +kernel : decode cX10_readDebt 71 = .ok (.invokevirtual 34, 3)) ?_
          obtain ⟨b_, gb_, h⟩ := rv_b_e h
          obtain ⟨gb1_, gb2_⟩ := rv_bo_e gb_
          refine re_nI (pc := 74) gb1_ ?_
          cases h
          exact re_iret (fun ty hty => by cases hty; exact gb2_) (by decide +kernel : decode cX10_readDebt 74 = .ok (.ireturn, 1))
        · refine re_icmp_ne_t (pc := 63) 75 (by decide +kernel : decode cX10_readDebt 63 = .ok (.if_icmp .ne 12, 3)) (by decide) g42_ ?_
          refine re_aloadn (pc := 75) 1 (by decide +kernel : decode cX10_readDebt 75 = .ok (.aload_n 0, 1)) rfl ?_
          obtain ⟨a43_, g44_, h⟩ := rv_b_e h
          refine re_gR (pc := 76) g44_ lfX10_9 rfl (by decide +kernel : decode cX10_readDebt 76 = .ok (.getfield 9, 3)) ?_
          obtain ⟨u45_, g46_, h⟩ := rv_b_e h
          obtain ⟨S48_, g49_, h⟩ := rv_b_e h
          have m47_ := metX8_next n S36_ a43_ _ g49_
          have z50_ : rv_same S36_ S48_ := m47_.sh rfl
          refine re_cV (pc := 79) [] m47_ (rv_okl.k z50_) (rv_up.sh z50_) (by decide) (rv_ck_e g46_) ⟨by decide, rfl⟩ (Nat.le_of_ble_eq_true rfl) lVX10_38 rfl (by decide +kernel : decode cX10_readDebt 79 = .ok (.invokevirtual 38, 3)) ?_
          refine re_aloadn (pc := 82) 1 (by decide +kernel : decode cX10_readDebt 82 = .ok (.aload_n 0, 1)) rfl ?_
          refine re_iconst (pc := 83) (1 : Int32) (by decide +kernel : decode cX10_readDebt 83 = .ok (.iconst 1, 1)) (by decide) ?_
          refine re_sipush (pc := 84) (999 : Int32) (by decide +kernel : decode cX10_readDebt 84 = .ok (.sipush 999, 3)) (by decide) ?_
          obtain ⟨u51_, g52_, h⟩ := rv_b_e h
          obtain ⟨x54_, S55_, g56_, h⟩ := rv_bp_e h
          have m53_ := metX10_takesNumber n S48_ a0 (1 : Int32) (999 : Int32) _ _ g56_
          have z57_ : rv_same S48_ S55_ := m53_.sh rfl
          refine re_cV (pc := 87) [.int (1 : Int32), .int (999 : Int32)] m53_ (rv_okl.k z57_) (rv_up.sh z57_) (by decide) (rv_ck_e g52_) ⟨by decide, rfl⟩ (Nat.le_of_ble_eq_true rfl) lVX10_97 rfl (by decide +kernel : decode cX10_readDebt 87 = .ok (.invokevirtual 97, 3)) ?_
          rcases rv_if_e h with ⟨g58_, h⟩ | ⟨g58_, h⟩
          · refine re_if_ne_f (pc := 90) 95 (by decide +kernel : decode cX10_readDebt 90 = .ok (.ifCond .ne 5, 3)) (by decide) g58_ ?_
            refine re_iconst (pc := 93) (0 : Int32) (by decide +kernel : decode cX10_readDebt 93 = .ok (.iconst 0, 1)) (by decide) ?_
            cases h
            exact re_iret (fun ty hty => by cases hty; rfl) (by decide +kernel : decode cX10_readDebt 94 = .ok (.ireturn, 1))
          · refine re_if_ne_t (pc := 90) 95 (by decide +kernel : decode cX10_readDebt 90 = .ok (.ifCond .ne 5, 3)) (by decide) g58_ ?_
            refine re_aloadn (pc := 95) 1 (by decide +kernel : decode cX10_readDebt 95 = .ok (.aload_n 0, 1)) rfl ?_
            obtain ⟨a59_, g60_, h⟩ := rv_b_e h
            refine re_gR (pc := 96) g60_ lfX10_15 rfl (by decide +kernel : decode cX10_readDebt 96 = .ok (.getfield 15, 3)) ?_
            refine re_iloadn (pc := 99) 0 (by decide +kernel : decode cX10_readDebt 99 = .ok (.iload_n 1, 1)) rfl ?_
            refine re_aloadn (pc := 100) 1 (by decide +kernel : decode cX10_readDebt 100 = .ok (.aload_n 0, 1)) rfl ?_
            obtain ⟨x61_, g62_, h⟩ := rv_b_e h
            refine re_gI (pc := 101) g62_ lfX10_149 rfl (by decide +kernel : decode cX10_readDebt 101 = .ok (.getfield 149, 3)) ?_
            refine re_aloadn (pc := 104) 1 (by decide +kernel : decode cX10_readDebt 104 = .ok (.aload_n 0, 1)) rfl ?_
            obtain ⟨x63_, g64_, h⟩ := rv_b_e h
            refine re_gI (pc := 105) g64_ lfX10_101 rfl (by decide +kernel : decode cX10_readDebt 105 = .ok (.getfield 101, 3)) ?_
            obtain ⟨u65_, g66_, h⟩ := rv_b_e h
            obtain ⟨S68_, g69_, h⟩ := rv_b_e h
            have m67_ := metX9_owe n S55_ a59_ x22_ x61_ x63_ _ g69_
            have z70_ : rv_same S55_ S68_ := m67_.sh rfl
            refine re_cV (pc := 108) [.int x22_, .int x61_, .int x63_] m67_ (rv_okl.k z70_) (rv_up.sh z70_) (by decide) (rv_ck_e g66_) ⟨by decide, rfl⟩ (Nat.le_of_ble_eq_true rfl) lVX10_162 rfl (by decide +kernel : decode cX10_readDebt 108 = .ok (.invokevirtual 162, 3)) ?_
            refine re_iconst (pc := 111) (1 : Int32) (by decide +kernel : decode cX10_readDebt 111 = .ok (.iconst 1, 1)) (by decide) ?_
            cases h
            exact re_iret (fun ty hty => by cases hty; rfl) (by decide +kernel : decode cX10_readDebt 112 = .ok (.ireturn, 1))
  · refine re_icmp_lt_f (pc := 9) 21 (by decide +kernel : decode cX10_readDebt 9 = .ok (.if_icmp .lt 12, 3)) (by decide) g5_ ?_
    refine re_aloadn (pc := 12) 0 (by decide +kernel : decode cX10_readDebt 12 = .ok (.aload_n 0, 1)) rfl ?_
    obtain ⟨a80_, g81_, h⟩ := rv_b_e h
    refine re_gR (pc := 13) g81_ lfX10_9 rfl (by decide +kernel : decode cX10_readDebt 13 = .ok (.getfield 9, 3)) ?_
    refine re_iconst (pc := 16) (4 : Int32) (by decide +kernel : decode cX10_readDebt 16 = .ok (.iconst 4, 1)) (by decide) ?_
    obtain ⟨u82_, g83_, h⟩ := rv_b_e h
    obtain ⟨x85_, S86_, g87_, h⟩ := rv_bp_e h
    have m84_ := metX8_fail n S a80_ (4 : Int32) _ _ g87_
    have z88_ : rv_same S S86_ := m84_.sh rfl
    refine re_cV (pc := 17) [.int (4 : Int32)] m84_ (rv_okl.k z88_) (rv_up.sh z88_) (by decide) (rv_ck_e g83_) ⟨by decide, rfl⟩ (Nat.le_of_ble_eq_true rfl) lVX10_34 rfl (by decide +kernel : decode cX10_readDebt 17 = .ok (.invokevirtual 34, 3)) ?_
    obtain ⟨b_, gb_, h⟩ := rv_b_e h
    obtain ⟨gb1_, gb2_⟩ := rv_bo_e gb_
    refine re_nI (pc := 20) gb1_ ?_
    cases h
    exact re_iret (fun ty hty => by cases hty; exact gb2_) (by decide +kernel : decode cX10_readDebt 20 = .ok (.ireturn, 1))
theorem metX10_readDebt (n : Nat) (S : rvS) (a0 : Nat) (r : Int32) (S' : rvS) (h : fnX10_readDebt n S a0 = some (r, S')) : rv_Met yX10_readDebt mX10_readDebt 4 [.ref a0] S (some (.int r)) S' := rv_Met.of ⟨by decide +kernel, rfl, (fun z => by first | rfl | cases z), rfl⟩ (Nat.le_of_ble_eq_true rfl) rfl (eX10_readDebt_in n S a0 r S' h)
noncomputable def fnX10_readStranger (n : Nat) (S : rvS) (a0 : Nat) : Option (Int32 × rvS) :=
  (rv_gR S 9 a0 0).bind fun a1_ =>
  (rv_ck S 7 a1_).bind fun u3_ =>
  (fnX8_next n S a1_).bind fun S6_ =>
  (rv_ck S6_ 9 a0).bind fun u9_ =>
  rv_bp (fnX10_seesWho n S6_ a0) fun x12_ S13_ =>
  if x12_ = 0 then (
    some ((0 : Int32), S13_))
  else (
    (rv_gR S13_ 9 a0 1).bind fun a17_ =>
    (rv_gR S13_ 8 a17_ 0).bind fun a19_ =>
    (rv_gI S13_ 9 a0 4).bind fun x21_ =>
    (rv_ck S13_ 0 a19_).bind fun u23_ =>
    (fnX1_isStranger n S13_ a19_ x21_).bind fun x26_ =>
    if x26_ = 0 then (
      (rv_gR S13_ 9 a0 1).bind fun a29_ =>
      (rv_gR S13_ 8 a29_ 0).bind fun a31_ =>
      (rv_gI S13_ 0 a31_ 2).bind fun x33_ =>
      (rv_gI S13_ 9 a0 4).bind fun x35_ =>
      (rv_pI S13_ 0 a31_ 2 (x33_ ||| ((1 : Int32) <<< (x35_ &&& 31)))).bind fun S37_ =>
      (rv_gR S37_ 9 a0 0).bind fun a39_ =>
      (rv_ck S37_ 7 a39_).bind fun u41_ =>
      (fnX8_next n S37_ a39_).bind fun S44_ =>
      some ((1 : Int32), S44_))
    else (
      (rv_gR S13_ 9 a0 0).bind fun a47_ =>
      (rv_ck S13_ 7 a47_).bind fun u49_ =>
      rv_bp (fnX8_fail n S13_ a47_ (3 : Int32)) fun x52_ S53_ =>
      (rv_bo x52_).bind fun b_ =>
      some (b_, S53_)))
set_option maxRecDepth 20000 in
set_option maxHeartbeats 4000000 in
theorem eX10_readStranger_in (n : Nat) (S : rvS) (a0 : Nat) (r : Int32) (S' : rvS) (h : fnX10_readStranger n S a0 = some (r, S')) : rv_Ev mX10_readStranger 3 0 [(0, .ref a0)] [] S (some (.int r)) S' := by
  unfold fnX10_readStranger at h
  refine re_aloadn (pc := 0) 0 (by decide +kernel : decode cX10_readStranger 0 = .ok (.aload_n 0, 1)) rfl ?_
  obtain ⟨a1_, g2_, h⟩ := rv_b_e h
  refine re_gR (pc := 1) g2_ lfX10_9 rfl (by decide +kernel : decode cX10_readStranger 1 = .ok (.getfield 9, 3)) ?_
  obtain ⟨u3_, g4_, h⟩ := rv_b_e h
  obtain ⟨S6_, g7_, h⟩ := rv_b_e h
  have m5_ := metX8_next n S a1_ _ g7_
  have z8_ : rv_same S S6_ := m5_.sh rfl
  refine re_cV (pc := 4) [] m5_ (rv_okl.k z8_) (rv_up.sh z8_) (by decide) (rv_ck_e g4_) ⟨by decide, rfl⟩ (Nat.le_of_ble_eq_true rfl) lVX10_38 rfl (by decide +kernel : decode cX10_readStranger 4 = .ok (.invokevirtual 38, 3)) ?_
  refine re_aloadn (pc := 7) 0 (by decide +kernel : decode cX10_readStranger 7 = .ok (.aload_n 0, 1)) rfl ?_
  obtain ⟨u9_, g10_, h⟩ := rv_b_e h
  obtain ⟨x12_, S13_, g14_, h⟩ := rv_bp_e h
  have m11_ := metX10_seesWho n S6_ a0 _ _ g14_
  have z15_ : rv_same S6_ S13_ := m11_.sh rfl
  refine re_cV (pc := 8) [] m11_ (rv_okl.k z15_) (rv_up.sh z15_) (by decide) (rv_ck_e g10_) ⟨by decide, rfl⟩ (Nat.le_of_ble_eq_true rfl) lVX10_146 rfl (by decide +kernel : decode cX10_readStranger 8 = .ok (.invokevirtual 146, 3)) ?_
  rcases rv_if_e h with ⟨g16_, h⟩ | ⟨g16_, h⟩
  · refine re_if_ne_f (pc := 11) 16 (by decide +kernel : decode cX10_readStranger 11 = .ok (.ifCond .ne 5, 3)) (by decide) g16_ ?_
    refine re_iconst (pc := 14) (0 : Int32) (by decide +kernel : decode cX10_readStranger 14 = .ok (.iconst 0, 1)) (by decide) ?_
    cases h
    exact re_iret (fun ty hty => by cases hty; rfl) (by decide +kernel : decode cX10_readStranger 15 = .ok (.ireturn, 1))
  · refine re_if_ne_t (pc := 11) 16 (by decide +kernel : decode cX10_readStranger 11 = .ok (.ifCond .ne 5, 3)) (by decide) g16_ ?_
    refine re_aloadn (pc := 16) 0 (by decide +kernel : decode cX10_readStranger 16 = .ok (.aload_n 0, 1)) rfl ?_
    obtain ⟨a17_, g18_, h⟩ := rv_b_e h
    refine re_gR (pc := 17) g18_ lfX10_15 rfl (by decide +kernel : decode cX10_readStranger 17 = .ok (.getfield 15, 3)) ?_
    obtain ⟨a19_, g20_, h⟩ := rv_b_e h
    refine re_gR (pc := 20) g20_ lfX10_107 rfl (by decide +kernel : decode cX10_readStranger 20 = .ok (.getfield 107, 3)) ?_
    refine re_aloadn (pc := 23) 0 (by decide +kernel : decode cX10_readStranger 23 = .ok (.aload_n 0, 1)) rfl ?_
    obtain ⟨x21_, g22_, h⟩ := rv_b_e h
    refine re_gI (pc := 24) g22_ lfX10_149 rfl (by decide +kernel : decode cX10_readStranger 24 = .ok (.getfield 149, 3)) ?_
    obtain ⟨u23_, g24_, h⟩ := rv_b_e h
    obtain ⟨x26_, g27_, h⟩ := rv_b_e h
    have m25_ := metX1_isStranger n S13_ a19_ x21_ _ g27_
    refine re_cV (pc := 27) [.int x21_] m25_ (rv_okl.k ⟨rfl, rfl⟩) (rv_up.rf _ _) (by decide) (rv_ck_e g24_) ⟨by decide, rfl⟩ (Nat.le_of_ble_eq_true rfl) lVX10_165 rfl (by decide +kernel : decode cX10_readStranger 27 = .ok (.invokevirtual 165, 3)) ?_
    rcases rv_if_e h with ⟨g28_, h⟩ | ⟨g28_, h⟩
    · refine re_if_eq_t (pc := 30) 42 (by decide +kernel : decode cX10_readStranger 30 = .ok (.ifCond .eq 12, 3)) (by decide) g28_ ?_
      refine re_aloadn (pc := 42) 0 (by decide +kernel : decode cX10_readStranger 42 = .ok (.aload_n 0, 1)) rfl ?_
      obtain ⟨a29_, g30_, h⟩ := rv_b_e h
      refine re_gR (pc := 43) g30_ lfX10_15 rfl (by decide +kernel : decode cX10_readStranger 43 = .ok (.getfield 15, 3)) ?_
      obtain ⟨a31_, g32_, h⟩ := rv_b_e h
      refine re_gR (pc := 46) g32_ lfX10_107 rfl (by decide +kernel : decode cX10_readStranger 46 = .ok (.getfield 107, 3)) ?_
      refine re_dup (pc := 49) (by decide +kernel : decode cX10_readStranger 49 = .ok (.dup, 1)) rfl ?_
      obtain ⟨x33_, g34_, h⟩ := rv_b_e h
      refine re_gI (pc := 50) g34_ lfX10_168 rfl (by decide +kernel : decode cX10_readStranger 50 = .ok (.getfield 168, 3)) ?_
      refine re_iconst (pc := 53) (1 : Int32) (by decide +kernel : decode cX10_readStranger 53 = .ok (.iconst 1, 1)) (by decide) ?_
      refine re_aloadn (pc := 54) 0 (by decide +kernel : decode cX10_readStranger 54 = .ok (.aload_n 0, 1)) rfl ?_
      obtain ⟨x35_, g36_, h⟩ := rv_b_e h
      refine re_gI (pc := 55) g36_ lfX10_149 rfl (by decide +kernel : decode cX10_readStranger 55 = .ok (.getfield 149, 3)) ?_
      refine re_ishl (pc := 58) (by decide +kernel : decode cX10_readStranger 58 = .ok (.ishl, 1)) ?_
      refine re_ior (pc := 59) (by decide +kernel : decode cX10_readStranger 59 = .ok (.ior, 1)) ?_
      obtain ⟨S37_, g38_, h⟩ := rv_b_e h
      refine re_pI (pc := 60) g38_ lfX10_168 rfl rfl rfl rfl (by decide +kernel : decode cX10_readStranger 60 = .ok (.putfield 168, 3)) ?_
      refine re_aloadn (pc := 63) 0 (by decide +kernel : decode cX10_readStranger 63 = .ok (.aload_n 0, 1)) rfl ?_
      obtain ⟨a39_, g40_, h⟩ := rv_b_e h
      refine re_gR (pc := 64) g40_ lfX10_9 rfl (by decide +kernel : decode cX10_readStranger 64 = .ok (.getfield 9, 3)) ?_
      obtain ⟨u41_, g42_, h⟩ := rv_b_e h
      obtain ⟨S44_, g45_, h⟩ := rv_b_e h
      have m43_ := metX8_next n S37_ a39_ _ g45_
      have z46_ : rv_same S37_ S44_ := m43_.sh rfl
      refine re_cV (pc := 67) [] m43_ (rv_okl.k z46_) (rv_up.sh z46_) (by decide) (rv_ck_e g42_) ⟨by decide, rfl⟩ (Nat.le_of_ble_eq_true rfl) lVX10_38 rfl (by decide +kernel : decode cX10_readStranger 67 = .ok (.invokevirtual 38, 3)) ?_
      refine re_iconst (pc := 70) (1 : Int32) (by decide +kernel : decode cX10_readStranger 70 = .ok (.iconst 1, 1)) (by decide) ?_
      cases h
      exact re_iret (fun ty hty => by cases hty; rfl) (by decide +kernel : decode cX10_readStranger 71 = .ok (.ireturn, 1))
    · refine re_if_eq_f (pc := 30) 42 (by decide +kernel : decode cX10_readStranger 30 = .ok (.ifCond .eq 12, 3)) (by decide) g28_ ?_
      refine re_aloadn (pc := 33) 0 (by decide +kernel : decode cX10_readStranger 33 = .ok (.aload_n 0, 1)) rfl ?_
      obtain ⟨a47_, g48_, h⟩ := rv_b_e h
      refine re_gR (pc := 34) g48_ lfX10_9 rfl (by decide +kernel : decode cX10_readStranger 34 = .ok (.getfield 9, 3)) ?_
      refine re_iconst (pc := 37) (3 : Int32) (by decide +kernel : decode cX10_readStranger 37 = .ok (.iconst 3, 1)) (by decide) ?_
      obtain ⟨u49_, g50_, h⟩ := rv_b_e h
      obtain ⟨x52_, S53_, g54_, h⟩ := rv_bp_e h
      have m51_ := metX8_fail n S13_ a47_ (3 : Int32) _ _ g54_
      have z55_ : rv_same S13_ S53_ := m51_.sh rfl
      refine re_cV (pc := 38) [.int (3 : Int32)] m51_ (rv_okl.k z55_) (rv_up.sh z55_) (by decide) (rv_ck_e g50_) ⟨by decide, rfl⟩ (Nat.le_of_ble_eq_true rfl) lVX10_34 rfl (by decide +kernel : decode cX10_readStranger 38 = .ok (.invokevirtual 34, 3)) ?_
      obtain ⟨b_, gb_, h⟩ := rv_b_e h
      obtain ⟨gb1_, gb2_⟩ := rv_bo_e gb_
      refine re_nI (pc := 41) gb1_ ?_
      cases h
      exact re_iret (fun ty hty => by cases hty; exact gb2_) (by decide +kernel : decode cX10_readStranger 41 = .ok (.ireturn, 1))
theorem metX10_readStranger (n : Nat) (S : rvS) (a0 : Nat) (r : Int32) (S' : rvS) (h : fnX10_readStranger n S a0 = some (r, S')) : rv_Met yX10_readStranger mX10_readStranger 3 [.ref a0] S (some (.int r)) S' := rv_Met.of ⟨by decide +kernel, rfl, (fun z => by first | rfl | cases z), rfl⟩ (Nat.le_of_ble_eq_true rfl) rfl (eX10_readStranger_in n S a0 r S' h)
noncomputable def fnX10_readFee (n : Nat) (S : rvS) (a0 : Nat) : Option (Int32 × rvS) :=
  (rv_gI S 9 a0 6).bind fun x1_ =>
  if x1_ = 0 then (
    (rv_pI S 9 a0 6 (1 : Int32)).bind fun S4_ =>
    (rv_gR S4_ 9 a0 0).bind fun a6_ =>
    (rv_ck S4_ 7 a6_).bind fun u8_ =>
    (fnX8_next n S4_ a6_).bind fun S11_ =>
    (rv_ck S11_ 9 a0).bind fun u14_ =>
    rv_bp (fnX10_takesNumber n S11_ a0 (1 : Int32) (99 : Int32)) fun x17_ S18_ =>
    if x17_ = 0 then (
      some ((0 : Int32), S18_))
    else (
      (rv_gR S18_ 9 a0 1).bind fun a22_ =>
      (rv_gI S18_ 9 a0 3).bind fun x24_ =>
      (rv_pI S18_ 8 a22_ 8 x24_).bind fun S26_ =>
      some ((1 : Int32), S26_)))
  else (
    (rv_gR S 9 a0 0).bind fun a28_ =>
    (rv_ck S 7 a28_).bind fun u30_ =>
    rv_bp (fnX8_fail n S a28_ (3 : Int32)) fun x33_ S34_ =>
    (rv_bo x33_).bind fun b_ =>
    some (b_, S34_))
set_option maxRecDepth 20000 in
set_option maxHeartbeats 4000000 in
theorem eX10_readFee_in (n : Nat) (S : rvS) (a0 : Nat) (r : Int32) (S' : rvS) (h : fnX10_readFee n S a0 = some (r, S')) : rv_Ev mX10_readFee 4 0 [(0, .ref a0)] [] S (some (.int r)) S' := by
  unfold fnX10_readFee at h
  refine re_aloadn (pc := 0) 0 (by decide +kernel : decode cX10_readFee 0 = .ok (.aload_n 0, 1)) rfl ?_
  obtain ⟨x1_, g2_, h⟩ := rv_b_e h
  refine re_gI (pc := 1) g2_ lfX10_171 rfl (by decide +kernel : decode cX10_readFee 1 = .ok (.getfield 171, 3)) ?_
  rcases rv_if_e h with ⟨g3_, h⟩ | ⟨g3_, h⟩
  · refine re_if_eq_t (pc := 4) 16 (by decide +kernel : decode cX10_readFee 4 = .ok (.ifCond .eq 12, 3)) (by decide) g3_ ?_
    refine re_aloadn (pc := 16) 0 (by decide +kernel : decode cX10_readFee 16 = .ok (.aload_n 0, 1)) rfl ?_
    refine re_iconst (pc := 17) (1 : Int32) (by decide +kernel : decode cX10_readFee 17 = .ok (.iconst 1, 1)) (by decide) ?_
    obtain ⟨S4_, g5_, h⟩ := rv_b_e h
    refine re_pI (pc := 18) g5_ lfX10_171 rfl rfl rfl rfl (by decide +kernel : decode cX10_readFee 18 = .ok (.putfield 171, 3)) ?_
    refine re_aloadn (pc := 21) 0 (by decide +kernel : decode cX10_readFee 21 = .ok (.aload_n 0, 1)) rfl ?_
    obtain ⟨a6_, g7_, h⟩ := rv_b_e h
    refine re_gR (pc := 22) g7_ lfX10_9 rfl (by decide +kernel : decode cX10_readFee 22 = .ok (.getfield 9, 3)) ?_
    obtain ⟨u8_, g9_, h⟩ := rv_b_e h
    obtain ⟨S11_, g12_, h⟩ := rv_b_e h
    have m10_ := metX8_next n S4_ a6_ _ g12_
    have z13_ : rv_same S4_ S11_ := m10_.sh rfl
    refine re_cV (pc := 25) [] m10_ (rv_okl.k z13_) (rv_up.sh z13_) (by decide) (rv_ck_e g9_) ⟨by decide, rfl⟩ (Nat.le_of_ble_eq_true rfl) lVX10_38 rfl (by decide +kernel : decode cX10_readFee 25 = .ok (.invokevirtual 38, 3)) ?_
    refine re_aloadn (pc := 28) 0 (by decide +kernel : decode cX10_readFee 28 = .ok (.aload_n 0, 1)) rfl ?_
    refine re_iconst (pc := 29) (1 : Int32) (by decide +kernel : decode cX10_readFee 29 = .ok (.iconst 1, 1)) (by decide) ?_
    refine re_bipush (pc := 30) (99 : Int32) (by decide +kernel : decode cX10_readFee 30 = .ok (.bipush 99, 2)) (by decide) ?_
    obtain ⟨u14_, g15_, h⟩ := rv_b_e h
    obtain ⟨x17_, S18_, g19_, h⟩ := rv_bp_e h
    have m16_ := metX10_takesNumber n S11_ a0 (1 : Int32) (99 : Int32) _ _ g19_
    have z20_ : rv_same S11_ S18_ := m16_.sh rfl
    refine re_cV (pc := 32) [.int (1 : Int32), .int (99 : Int32)] m16_ (rv_okl.k z20_) (rv_up.sh z20_) (by decide) (rv_ck_e g15_) ⟨by decide, rfl⟩ (Nat.le_of_ble_eq_true rfl) lVX10_97 rfl (by decide +kernel : decode cX10_readFee 32 = .ok (.invokevirtual 97, 3)) ?_
    rcases rv_if_e h with ⟨g21_, h⟩ | ⟨g21_, h⟩
    · refine re_if_ne_f (pc := 35) 40 (by decide +kernel : decode cX10_readFee 35 = .ok (.ifCond .ne 5, 3)) (by decide) g21_ ?_
      refine re_iconst (pc := 38) (0 : Int32) (by decide +kernel : decode cX10_readFee 38 = .ok (.iconst 0, 1)) (by decide) ?_
      cases h
      exact re_iret (fun ty hty => by cases hty; rfl) (by decide +kernel : decode cX10_readFee 39 = .ok (.ireturn, 1))
    · refine re_if_ne_t (pc := 35) 40 (by decide +kernel : decode cX10_readFee 35 = .ok (.ifCond .ne 5, 3)) (by decide) g21_ ?_
      refine re_aloadn (pc := 40) 0 (by decide +kernel : decode cX10_readFee 40 = .ok (.aload_n 0, 1)) rfl ?_
      obtain ⟨a22_, g23_, h⟩ := rv_b_e h
      refine re_gR (pc := 41) g23_ lfX10_15 rfl (by decide +kernel : decode cX10_readFee 41 = .ok (.getfield 15, 3)) ?_
      refine re_aloadn (pc := 44) 0 (by decide +kernel : decode cX10_readFee 44 = .ok (.aload_n 0, 1)) rfl ?_
      obtain ⟨x24_, g25_, h⟩ := rv_b_e h
      refine re_gI (pc := 45) g25_ lfX10_101 rfl (by decide +kernel : decode cX10_readFee 45 = .ok (.getfield 101, 3)) ?_
      obtain ⟨S26_, g27_, h⟩ := rv_b_e h
      refine re_pI (pc := 48) g27_ lfX10_174 rfl rfl rfl rfl (by decide +kernel : decode cX10_readFee 48 = .ok (.putfield 174, 3)) ?_
      refine re_iconst (pc := 51) (1 : Int32) (by decide +kernel : decode cX10_readFee 51 = .ok (.iconst 1, 1)) (by decide) ?_
      cases h
      exact re_iret (fun ty hty => by cases hty; rfl) (by decide +kernel : decode cX10_readFee 52 = .ok (.ireturn, 1))
  · refine re_if_eq_f (pc := 4) 16 (by decide +kernel : decode cX10_readFee 4 = .ok (.ifCond .eq 12, 3)) (by decide) g3_ ?_
    refine re_aloadn (pc := 7) 0 (by decide +kernel : decode cX10_readFee 7 = .ok (.aload_n 0, 1)) rfl ?_
    obtain ⟨a28_, g29_, h⟩ := rv_b_e h
    refine re_gR (pc := 8) g29_ lfX10_9 rfl (by decide +kernel : decode cX10_readFee 8 = .ok (.getfield 9, 3)) ?_
    refine re_iconst (pc := 11) (3 : Int32) (by decide +kernel : decode cX10_readFee 11 = .ok (.iconst 3, 1)) (by decide) ?_
    obtain ⟨u30_, g31_, h⟩ := rv_b_e h
    obtain ⟨x33_, S34_, g35_, h⟩ := rv_bp_e h
    have m32_ := metX8_fail n S a28_ (3 : Int32) _ _ g35_
    have z36_ : rv_same S S34_ := m32_.sh rfl
    refine re_cV (pc := 12) [.int (3 : Int32)] m32_ (rv_okl.k z36_) (rv_up.sh z36_) (by decide) (rv_ck_e g31_) ⟨by decide, rfl⟩ (Nat.le_of_ble_eq_true rfl) lVX10_34 rfl (by decide +kernel : decode cX10_readFee 12 = .ok (.invokevirtual 34, 3)) ?_
    obtain ⟨b_, gb_, h⟩ := rv_b_e h
    obtain ⟨gb1_, gb2_⟩ := rv_bo_e gb_
    refine re_nI (pc := 15) gb1_ ?_
    cases h
    exact re_iret (fun ty hty => by cases hty; exact gb2_) (by decide +kernel : decode cX10_readFee 15 = .ok (.ireturn, 1))
theorem metX10_readFee (n : Nat) (S : rvS) (a0 : Nat) (r : Int32) (S' : rvS) (h : fnX10_readFee n S a0 = some (r, S')) : rv_Met yX10_readFee mX10_readFee 4 [.ref a0] S (some (.int r)) S' := rv_Met.of ⟨by decide +kernel, rfl, (fun z => by first | rfl | cases z), rfl⟩ (Nat.le_of_ble_eq_true rfl) rfl (eX10_readFee_in n S a0 r S' h)
noncomputable def cX10_readLaw_109 (n : Nat) (S : rvS) (a0 : Nat) : Option (Int32 × rvS) :=
  (rv_gR S 9 a0 0).bind fun a1_ =>
  (rv_ck S 7 a1_).bind fun u3_ =>
  (fnX8_next n S a1_).bind fun S6_ =>
  some ((1 : Int32), S6_)
set_option maxRecDepth 20000 in
set_option maxHeartbeats 4000000 in
theorem eX10_readLaw_109 (n : Nat) (S : rvS) (a0 : Nat) (r : Int32) (S' : rvS) (h : cX10_readLaw_109 n S a0 = some (r, S')) : rv_Ev mX10_readLaw 3 109 [(0, .ref a0)] [] S (some (.int r)) S' := by
  unfold cX10_readLaw_109 at h
  refine re_aloadn (pc := 109) 0 (by decide +kernel : decode cX10_readLaw 109 = .ok (.aload_n 0, 1)) rfl ?_
  obtain ⟨a1_, g2_, h⟩ := rv_b_e h
  refine re_gR (pc := 110) g2_ lfX10_9 rfl (by decide +kernel : decode cX10_readLaw 110 = .ok (.getfield 9, 3)) ?_
  obtain ⟨u3_, g4_, h⟩ := rv_b_e h
  obtain ⟨S6_, g7_, h⟩ := rv_b_e h
  have m5_ := metX8_next n S a1_ _ g7_
  have z8_ : rv_same S S6_ := m5_.sh rfl
  refine re_cV (pc := 113) [] m5_ (rv_okl.k z8_) (rv_up.sh z8_) (by decide) (rv_ck_e g4_) ⟨by decide, rfl⟩ (Nat.le_of_ble_eq_true rfl) lVX10_38 rfl (by decide +kernel : decode cX10_readLaw 113 = .ok (.invokevirtual 38, 3)) ?_
  refine re_iconst (pc := 116) (1 : Int32) (by decide +kernel : decode cX10_readLaw 116 = .ok (.iconst 1, 1)) (by decide) ?_
  cases h
  exact re_iret (fun ty hty => by cases hty; rfl) (by decide +kernel : decode cX10_readLaw 117 = .ok (.ireturn, 1))
noncomputable def fnX10_readLaw (n : Nat) (S : rvS) (a0 : Nat) : Option (Int32 × rvS) :=
  (rv_gI S 9 a0 7).bind fun x1_ =>
  if x1_ = 0 then (
    (rv_pI S 9 a0 7 (1 : Int32)).bind fun S4_ =>
    (rv_gR S4_ 9 a0 0).bind fun a6_ =>
    (rv_ck S4_ 7 a6_).bind fun u8_ =>
    (fnX8_next n S4_ a6_).bind fun S11_ =>
    (rv_gR S11_ 9 a0 0).bind fun a14_ =>
    (rv_ck S11_ 7 a14_).bind fun u16_ =>
    (fnX8_isWord n S11_ a14_ 8).bind fun x19_ =>
    if x19_ = 0 then (
      (rv_gR S11_ 9 a0 0).bind fun a22_ =>
      (rv_ck S11_ 7 a22_).bind fun u24_ =>
      (fnX8_isWord n S11_ a22_ 9).bind fun x27_ =>
      if x27_ = 0 then (
        (rv_gR S11_ 9 a0 0).bind fun a30_ =>
        (rv_ck S11_ 7 a30_).bind fun u32_ =>
        (fnX8_isWord n S11_ a30_ 10).bind fun x35_ =>
        if x35_ = 0 then (
          (rv_gR S11_ 9 a0 0).bind fun a38_ =>
          (rv_ck S11_ 7 a38_).bind fun u40_ =>
          rv_bp (fnX8_fail n S11_ a38_ (1 : Int32)) fun x43_ S44_ =>
          (rv_bo x43_).bind fun b_ =>
          some (b_, S44_))
        else (
          (rv_gR S11_ 9 a0 1).bind fun a47_ =>
          (rv_pI S11_ 8 a47_ 9 (2 : Int32)).bind fun S49_ =>
          cX10_readLaw_109 n S49_ a0))
      else (
        (rv_gR S11_ 9 a0 1).bind fun a51_ =>
        (rv_pI S11_ 8 a51_ 9 (1 : Int32)).bind fun S53_ =>
        cX10_readLaw_109 n S53_ a0))
    else (
      (rv_gR S11_ 9 a0 1).bind fun a55_ =>
      (rv_pI S11_ 8 a55_ 9 (0 : Int32)).bind fun S57_ =>
      cX10_readLaw_109 n S57_ a0))
  else (
    (rv_gR S 9 a0 0).bind fun a59_ =>
    (rv_ck S 7 a59_).bind fun u61_ =>
    rv_bp (fnX8_fail n S a59_ (3 : Int32)) fun x64_ S65_ =>
    (rv_bo x64_).bind fun b_ =>
    some (b_, S65_))
set_option maxRecDepth 20000 in
set_option maxHeartbeats 4000000 in
theorem eX10_readLaw_in (n : Nat) (S : rvS) (a0 : Nat) (r : Int32) (S' : rvS) (h : fnX10_readLaw n S a0 = some (r, S')) : rv_Ev mX10_readLaw 3 0 [(0, .ref a0)] [] S (some (.int r)) S' := by
  unfold fnX10_readLaw at h
  refine re_aloadn (pc := 0) 0 (by decide +kernel : decode cX10_readLaw 0 = .ok (.aload_n 0, 1)) rfl ?_
  obtain ⟨x1_, g2_, h⟩ := rv_b_e h
  refine re_gI (pc := 1) g2_ lfX10_177 rfl (by decide +kernel : decode cX10_readLaw 1 = .ok (.getfield 177, 3)) ?_
  rcases rv_if_e h with ⟨g3_, h⟩ | ⟨g3_, h⟩
  · refine re_if_eq_t (pc := 4) 16 (by decide +kernel : decode cX10_readLaw 4 = .ok (.ifCond .eq 12, 3)) (by decide) g3_ ?_
    refine re_aloadn (pc := 16) 0 (by decide +kernel : decode cX10_readLaw 16 = .ok (.aload_n 0, 1)) rfl ?_
    refine re_iconst (pc := 17) (1 : Int32) (by decide +kernel : decode cX10_readLaw 17 = .ok (.iconst 1, 1)) (by decide) ?_
    obtain ⟨S4_, g5_, h⟩ := rv_b_e h
    refine re_pI (pc := 18) g5_ lfX10_177 rfl rfl rfl rfl (by decide +kernel : decode cX10_readLaw 18 = .ok (.putfield 177, 3)) ?_
    refine re_aloadn (pc := 21) 0 (by decide +kernel : decode cX10_readLaw 21 = .ok (.aload_n 0, 1)) rfl ?_
    obtain ⟨a6_, g7_, h⟩ := rv_b_e h
    refine re_gR (pc := 22) g7_ lfX10_9 rfl (by decide +kernel : decode cX10_readLaw 22 = .ok (.getfield 9, 3)) ?_
    obtain ⟨u8_, g9_, h⟩ := rv_b_e h
    obtain ⟨S11_, g12_, h⟩ := rv_b_e h
    have m10_ := metX8_next n S4_ a6_ _ g12_
    have z13_ : rv_same S4_ S11_ := m10_.sh rfl
    refine re_cV (pc := 25) [] m10_ (rv_okl.k z13_) (rv_up.sh z13_) (by decide) (rv_ck_e g9_) ⟨by decide, rfl⟩ (Nat.le_of_ble_eq_true rfl) lVX10_38 rfl (by decide +kernel : decode cX10_readLaw 25 = .ok (.invokevirtual 38, 3)) ?_
    refine re_aloadn (pc := 28) 0 (by decide +kernel : decode cX10_readLaw 28 = .ok (.aload_n 0, 1)) rfl ?_
    obtain ⟨a14_, g15_, h⟩ := rv_b_e h
    refine re_gR (pc := 29) g15_ lfX10_9 rfl (by decide +kernel : decode cX10_readLaw 29 = .ok (.getfield 9, 3)) ?_
    refine re_getsW (pc := 32) (i := 8) (by decide) (rw3 173 (by decide +kernel) rfl) (by decide +kernel : decode cX10_readLaw 32 = .ok (.getstatic 180, 3)) ?_
    obtain ⟨u16_, g17_, h⟩ := rv_b_e h
    obtain ⟨x19_, g20_, h⟩ := rv_b_e h
    have m18_ := metX8_isWord n S11_ a14_ 8 _ g20_
    refine re_cV (pc := 35) [.ref 8] m18_ (rv_okl.k ⟨rfl, rfl⟩) (rv_up.rf _ _) (by decide) (rv_ck_e g17_) ⟨by decide, rfl⟩ (Nat.le_of_ble_eq_true rfl) lVX10_117 rfl (by decide +kernel : decode cX10_readLaw 35 = .ok (.invokevirtual 117, 3)) ?_
    rcases rv_if_e h with ⟨g21_, h⟩ | ⟨g21_, h⟩
    · refine re_if_eq_t (pc := 38) 52 (by decide +kernel : decode cX10_readLaw 38 = .ok (.ifCond .eq 14, 3)) (by decide) g21_ ?_
      refine re_aloadn (pc := 52) 0 (by decide +kernel : decode cX10_readLaw 52 = .ok (.aload_n 0, 1)) rfl ?_
      obtain ⟨a22_, g23_, h⟩ := rv_b_e h
      refine re_gR (pc := 53) g23_ lfX10_9 rfl (by decide +kernel : decode cX10_readLaw 53 = .ok (.getfield 9, 3)) ?_
      refine re_getsW (pc := 56) (i := 9) (by decide) (rw3 175 (by decide +kernel) rfl) (by decide +kernel : decode cX10_readLaw 56 = .ok (.getstatic 186, 3)) ?_
      obtain ⟨u24_, g25_, h⟩ := rv_b_e h
      obtain ⟨x27_, g28_, h⟩ := rv_b_e h
      have m26_ := metX8_isWord n S11_ a22_ 9 _ g28_
      refine re_cV (pc := 59) [.ref 9] m26_ (rv_okl.k ⟨rfl, rfl⟩) (rv_up.rf _ _) (by decide) (rv_ck_e g25_) ⟨by decide, rfl⟩ (Nat.le_of_ble_eq_true rfl) lVX10_117 rfl (by decide +kernel : decode cX10_readLaw 59 = .ok (.invokevirtual 117, 3)) ?_
      rcases rv_if_e h with ⟨g29_, h⟩ | ⟨g29_, h⟩
      · refine re_if_eq_t (pc := 62) 76 (by decide +kernel : decode cX10_readLaw 62 = .ok (.ifCond .eq 14, 3)) (by decide) g29_ ?_
        refine re_aloadn (pc := 76) 0 (by decide +kernel : decode cX10_readLaw 76 = .ok (.aload_n 0, 1)) rfl ?_
        obtain ⟨a30_, g31_, h⟩ := rv_b_e h
        refine re_gR (pc := 77) g31_ lfX10_9 rfl (by decide +kernel : decode cX10_readLaw 77 = .ok (.getfield 9, 3)) ?_
        refine re_getsW (pc := 80) (i := 10) (by decide) (rw3 177 (by decide +kernel) rfl) (by decide +kernel : decode cX10_readLaw 80 = .ok (.getstatic 189, 3)) ?_
        obtain ⟨u32_, g33_, h⟩ := rv_b_e h
        obtain ⟨x35_, g36_, h⟩ := rv_b_e h
        have m34_ := metX8_isWord n S11_ a30_ 10 _ g36_
        refine re_cV (pc := 83) [.ref 10] m34_ (rv_okl.k ⟨rfl, rfl⟩) (rv_up.rf _ _) (by decide) (rv_ck_e g33_) ⟨by decide, rfl⟩ (Nat.le_of_ble_eq_true rfl) lVX10_117 rfl (by decide +kernel : decode cX10_readLaw 83 = .ok (.invokevirtual 117, 3)) ?_
        rcases rv_if_e h with ⟨g37_, h⟩ | ⟨g37_, h⟩
        · refine re_if_eq_t (pc := 86) 100 (by decide +kernel : decode cX10_readLaw 86 = .ok (.ifCond .eq 14, 3)) (by decide) g37_ ?_
          refine re_aloadn (pc := 100) 0 (by decide +kernel : decode cX10_readLaw 100 = .ok (.aload_n 0, 1)) rfl ?_
          obtain ⟨a38_, g39_, h⟩ := rv_b_e h
          refine re_gR (pc := 101) g39_ lfX10_9 rfl (by decide +kernel : decode cX10_readLaw 101 = .ok (.getfield 9, 3)) ?_
          refine re_iconst (pc := 104) (1 : Int32) (by decide +kernel : decode cX10_readLaw 104 = .ok (.iconst 1, 1)) (by decide) ?_
          obtain ⟨u40_, g41_, h⟩ := rv_b_e h
          obtain ⟨x43_, S44_, g45_, h⟩ := rv_bp_e h
          have m42_ := metX8_fail n S11_ a38_ (1 : Int32) _ _ g45_
          have z46_ : rv_same S11_ S44_ := m42_.sh rfl
          refine re_cV (pc := 105) [.int (1 : Int32)] m42_ (rv_okl.k z46_) (rv_up.sh z46_) (by decide) (rv_ck_e g41_) ⟨by decide, rfl⟩ (Nat.le_of_ble_eq_true rfl) lVX10_34 rfl (by decide +kernel : decode cX10_readLaw 105 = .ok (.invokevirtual 34, 3)) ?_
          obtain ⟨b_, gb_, h⟩ := rv_b_e h
          obtain ⟨gb1_, gb2_⟩ := rv_bo_e gb_
          refine re_nI (pc := 108) gb1_ ?_
          cases h
          exact re_iret (fun ty hty => by cases hty; exact gb2_) (by decide +kernel : decode cX10_readLaw 108 = .ok (.ireturn, 1))
        · refine re_if_eq_f (pc := 86) 100 (by decide +kernel : decode cX10_readLaw 86 = .ok (.ifCond .eq 14, 3)) (by decide) g37_ ?_
          refine re_aloadn (pc := 89) 0 (by decide +kernel : decode cX10_readLaw 89 = .ok (.aload_n 0, 1)) rfl ?_
          obtain ⟨a47_, g48_, h⟩ := rv_b_e h
          refine re_gR (pc := 90) g48_ lfX10_15 rfl (by decide +kernel : decode cX10_readLaw 90 = .ok (.getfield 15, 3)) ?_
          refine re_iconst (pc := 93) (2 : Int32) (by decide +kernel : decode cX10_readLaw 93 = .ok (.iconst 2, 1)) (by decide) ?_
          obtain ⟨S49_, g50_, h⟩ := rv_b_e h
          refine re_pI (pc := 94) g50_ lfX10_183 rfl rfl rfl rfl (by decide +kernel : decode cX10_readLaw 94 = .ok (.putfield 183, 3)) ?_
          refine re_goto (pc := 97) 109 (by decide +kernel : decode cX10_readLaw 97 = .ok (.goto 12, 3)) (by decide) ?_
          exact eX10_readLaw_109 n S49_ a0 _ _ h
      · refine re_if_eq_f (pc := 62) 76 (by decide +kernel : decode cX10_readLaw 62 = .ok (.ifCond .eq 14, 3)) (by decide) g29_ ?_
        refine re_aloadn (pc := 65) 0 (by decide +kernel : decode cX10_readLaw 65 = .ok (.aload_n 0, 1)) rfl ?_
        obtain ⟨a51_, g52_, h⟩ := rv_b_e h
        refine re_gR (pc := 66) g52_ lfX10_15 rfl (by decide +kernel : decode cX10_readLaw 66 = .ok (.getfield 15, 3)) ?_
        refine re_iconst (pc := 69) (1 : Int32) (by decide +kernel : decode cX10_readLaw 69 = .ok (.iconst 1, 1)) (by decide) ?_
        obtain ⟨S53_, g54_, h⟩ := rv_b_e h
        refine re_pI (pc := 70) g54_ lfX10_183 rfl rfl rfl rfl (by decide +kernel : decode cX10_readLaw 70 = .ok (.putfield 183, 3)) ?_
        refine re_goto (pc := 73) 109 (by decide +kernel : decode cX10_readLaw 73 = .ok (.goto 36, 3)) (by decide) ?_
        exact eX10_readLaw_109 n S53_ a0 _ _ h
    · refine re_if_eq_f (pc := 38) 52 (by decide +kernel : decode cX10_readLaw 38 = .ok (.ifCond .eq 14, 3)) (by decide) g21_ ?_
      refine re_aloadn (pc := 41) 0 (by decide +kernel : decode cX10_readLaw 41 = .ok (.aload_n 0, 1)) rfl ?_
      obtain ⟨a55_, g56_, h⟩ := rv_b_e h
      refine re_gR (pc := 42) g56_ lfX10_15 rfl (by decide +kernel : decode cX10_readLaw 42 = .ok (.getfield 15, 3)) ?_
      refine re_iconst (pc := 45) (0 : Int32) (by decide +kernel : decode cX10_readLaw 45 = .ok (.iconst 0, 1)) (by decide) ?_
      obtain ⟨S57_, g58_, h⟩ := rv_b_e h
      refine re_pI (pc := 46) g58_ lfX10_183 rfl rfl rfl rfl (by decide +kernel : decode cX10_readLaw 46 = .ok (.putfield 183, 3)) ?_
      refine re_goto (pc := 49) 109 (by decide +kernel : decode cX10_readLaw 49 = .ok (.goto 60, 3)) (by decide) ?_
      exact eX10_readLaw_109 n S57_ a0 _ _ h
  · refine re_if_eq_f (pc := 4) 16 (by decide +kernel : decode cX10_readLaw 4 = .ok (.ifCond .eq 12, 3)) (by decide) g3_ ?_
    refine re_aloadn (pc := 7) 0 (by decide +kernel : decode cX10_readLaw 7 = .ok (.aload_n 0, 1)) rfl ?_
    obtain ⟨a59_, g60_, h⟩ := rv_b_e h
    refine re_gR (pc := 8) g60_ lfX10_9 rfl (by decide +kernel : decode cX10_readLaw 8 = .ok (.getfield 9, 3)) ?_
    refine re_iconst (pc := 11) (3 : Int32) (by decide +kernel : decode cX10_readLaw 11 = .ok (.iconst 3, 1)) (by decide) ?_
    obtain ⟨u61_, g62_, h⟩ := rv_b_e h
    obtain ⟨x64_, S65_, g66_, h⟩ := rv_bp_e h
    have m63_ := metX8_fail n S a59_ (3 : Int32) _ _ g66_
    have z67_ : rv_same S S65_ := m63_.sh rfl
    refine re_cV (pc := 12) [.int (3 : Int32)] m63_ (rv_okl.k z67_) (rv_up.sh z67_) (by decide) (rv_ck_e g62_) ⟨by decide, rfl⟩ (Nat.le_of_ble_eq_true rfl) lVX10_34 rfl (by decide +kernel : decode cX10_readLaw 12 = .ok (.invokevirtual 34, 3)) ?_
    obtain ⟨b_, gb_, h⟩ := rv_b_e h
    obtain ⟨gb1_, gb2_⟩ := rv_bo_e gb_
    refine re_nI (pc := 15) gb1_ ?_
    cases h
    exact re_iret (fun ty hty => by cases hty; exact gb2_) (by decide +kernel : decode cX10_readLaw 15 = .ok (.ireturn, 1))
theorem metX10_readLaw (n : Nat) (S : rvS) (a0 : Nat) (r : Int32) (S' : rvS) (h : fnX10_readLaw n S a0 = some (r, S')) : rv_Met yX10_readLaw mX10_readLaw 3 [.ref a0] S (some (.int r)) S' := rv_Met.of ⟨by decide +kernel, rfl, (fun z => by first | rfl | cases z), rfl⟩ (Nat.le_of_ble_eq_true rfl) rfl (eX10_readLaw_in n S a0 r S' h)
noncomputable def fnX10_readLine (n : Nat) (S : rvS) (a0 : Nat) : Option (Int32 × rvS) :=
  (rv_gR S 9 a0 0).bind fun a1_ =>
  (rv_gI S 7 a1_ 4).bind fun x3_ =>
  if x3_ = (2 : Int32) then (
    (rv_gR S 9 a0 0).bind fun a6_ =>
    (rv_gR S 7 a6_ 8).bind fun a8_ =>
    (rv_wd a8_).bind fun u10_ =>
    (rv_ix 23 (Int32.ofNat a8_)).bind fun j12_ =>
    rv_lt (rv_sw j12_) fun x15_ =>
    if x15_ = 1 then (
      (rv_ck S 9 a0).bind fun u18_ =>
      rv_bp (fnX10_readRim n S a0) fun x21_ S22_ =>
      (rv_bo x21_).bind fun b_ =>
      some (b_, S22_))
    else (
      if x15_ = 2 then (
        (rv_ck S 9 a0).bind fun u26_ =>
        rv_bp (fnX10_readWho n S a0) fun x29_ S30_ =>
        (rv_bo x29_).bind fun b_ =>
        some (b_, S30_))
      else (
        if x15_ = 3 then (
          (rv_ck S 9 a0).bind fun u34_ =>
          rv_bp (fnX10_readRoad n S a0) fun x37_ S38_ =>
          (rv_bo x37_).bind fun b_ =>
          some (b_, S38_))
        else (
          if x15_ = 4 then (
            (rv_ck S 9 a0).bind fun u42_ =>
            rv_bp (fnX10_readCoin n S a0) fun x45_ S46_ =>
            (rv_bo x45_).bind fun b_ =>
            some (b_, S46_))
          else (
            if x15_ = 5 then (
              (rv_ck S 9 a0).bind fun u50_ =>
              rv_bp (fnX10_readDebt n S a0) fun x53_ S54_ =>
              (rv_bo x53_).bind fun b_ =>
              some (b_, S54_))
            else (
              if x15_ = 6 then (
                (rv_ck S 9 a0).bind fun u58_ =>
                rv_bp (fnX10_readStranger n S a0) fun x61_ S62_ =>
                (rv_bo x61_).bind fun b_ =>
                some (b_, S62_))
              else (
                if x15_ = 7 then (
                  (rv_ck S 9 a0).bind fun u66_ =>
                  rv_bp (fnX10_readFee n S a0) fun x69_ S70_ =>
                  (rv_bo x69_).bind fun b_ =>
                  some (b_, S70_))
                else (
                  if x15_ = 8 then (
                    (rv_ck S 9 a0).bind fun u74_ =>
                    rv_bp (fnX10_readLaw n S a0) fun x77_ S78_ =>
                    (rv_bo x77_).bind fun b_ =>
                    some (b_, S78_))
                  else (
                    (rv_gR S 9 a0 0).bind fun a81_ =>
                    (rv_ck S 7 a81_).bind fun u83_ =>
                    rv_bp (fnX8_fail n S a81_ (1 : Int32)) fun x86_ S87_ =>
                    (rv_bo x86_).bind fun b_ =>
                    some (b_, S87_))))))))))
  else (
    (rv_gR S 9 a0 0).bind fun a90_ =>
    (rv_ck S 7 a90_).bind fun u92_ =>
    rv_bp (fnX8_fail n S a90_ (1 : Int32)) fun x95_ S96_ =>
    (rv_bo x95_).bind fun b_ =>
    some (b_, S96_))
set_option maxRecDepth 20000 in
set_option maxHeartbeats 4000000 in
theorem eX10_readLine_in (n : Nat) (S : rvS) (a0 : Nat) (r : Int32) (S' : rvS) (h : fnX10_readLine n S a0 = some (r, S')) : rv_Ev mX10_readLine 5 0 [(0, .ref a0)] [] S (some (.int r)) S' := by
  unfold fnX10_readLine at h
  refine re_aloadn (pc := 0) 0 (by decide +kernel : decode cX10_readLine 0 = .ok (.aload_n 0, 1)) rfl ?_
  obtain ⟨a1_, g2_, h⟩ := rv_b_e h
  refine re_gR (pc := 1) g2_ lfX10_9 rfl (by decide +kernel : decode cX10_readLine 1 = .ok (.getfield 9, 3)) ?_
  obtain ⟨x3_, g4_, h⟩ := rv_b_e h
  refine re_gI (pc := 4) g4_ lfX10_24 rfl (by decide +kernel : decode cX10_readLine 4 = .ok (.getfield 24, 3)) ?_
  refine re_iconst (pc := 7) (2 : Int32) (by decide +kernel : decode cX10_readLine 7 = .ok (.iconst 2, 1)) (by decide) ?_
  rcases rv_if_e h with ⟨g5_, h⟩ | ⟨g5_, h⟩
  · refine re_icmp_eq_t (pc := 8) 20 (by decide +kernel : decode cX10_readLine 8 = .ok (.if_icmp .eq 12, 3)) (by decide) g5_ ?_
    refine re_getsS (pc := 20) (rw3 74 (by decide +kernel) rfl) (by decide +kernel : decode cX10_readLine 20 = .ok (.getstatic 44, 3)) ?_
    refine re_aloadn (pc := 23) 0 (by decide +kernel : decode cX10_readLine 23 = .ok (.aload_n 0, 1)) rfl ?_
    obtain ⟨a6_, g7_, h⟩ := rv_b_e h
    refine re_gR (pc := 24) g7_ lfX10_9 rfl (by decide +kernel : decode cX10_readLine 24 = .ok (.getfield 9, 3)) ?_
    obtain ⟨a8_, g9_, h⟩ := rv_b_e h
    refine re_gR (pc := 27) g9_ lfX10_50 rfl (by decide +kernel : decode cX10_readLine 27 = .ok (.getfield 50, 3)) ?_
    obtain ⟨u10_, g11_, h⟩ := rv_b_e h
    refine re_ord (pc := 30) (rv_wd_e g11_) (rw3 76 (by decide +kernel) rfl) (by decide) (Nat.le_of_ble_eq_true rfl) (by decide +kernel : decode cX10_readLine 30 = .ok (.invokevirtual 54, 3)) ?_
    obtain ⟨j12_, g13_, h⟩ := rv_b_e h
    have z14_ := rv_ix_e g13_
    refine re_aldS (pc := 33) z14_.1 (by decide +kernel : decode cX10_readLine 33 = .ok (.iaload, 1)) ?_
    refine re_nI (congrArg rv_sw z14_.2.symm) ?_
    obtain ⟨x15_, g16_, h⟩ := rv_lt_e h
    refine re_nI (pc := 34) g16_ ?_
    rcases rv_if_e h with ⟨g17_, h⟩ | ⟨g17_, h⟩
    · refine re_tabInE (pc := 34) (off := 46) 80 (by decide +kernel : decode cX10_readLine 34 = .ok (.tableswitch 86 1 8 #[46, 51, 56, 61, 66, 71, 76, 81], 46)) g17_ (by decide) (by decide) (by decide) (by decide) ?_
      refine re_aloadn (pc := 80) 0 (by decide +kernel : decode cX10_readLine 80 = .ok (.aload_n 0, 1)) rfl ?_
      obtain ⟨u18_, g19_, h⟩ := rv_b_e h
      obtain ⟨x21_, S22_, g23_, h⟩ := rv_bp_e h
      have m20_ := metX10_readRim n S a0 _ _ g23_
      have z24_ : rv_same S S22_ := m20_.sh rfl
      refine re_cV (pc := 81) [] m20_ (rv_okl.k z24_) (rv_up.sh z24_) (by decide) (rv_ck_e g19_) ⟨by decide, rfl⟩ (Nat.le_of_ble_eq_true rfl) lVX10_60 rfl (by decide +kernel : decode cX10_readLine 81 = .ok (.invokevirtual 60, 3)) ?_
      obtain ⟨b_, gb_, h⟩ := rv_b_e h
      obtain ⟨gb1_, gb2_⟩ := rv_bo_e gb_
      refine re_nI (pc := 84) gb1_ ?_
      cases h
      exact re_iret (fun ty hty => by cases hty; exact gb2_) (by decide +kernel : decode cX10_readLine 84 = .ok (.ireturn, 1))
    · skip
      rcases rv_if_e h with ⟨g25_, h⟩ | ⟨g25_, h⟩
      · refine re_tabInE (pc := 34) (off := 51) 85 (by decide +kernel : decode cX10_readLine 34 = .ok (.tableswitch 86 1 8 #[46, 51, 56, 61, 66, 71, 76, 81], 46)) g25_ (by decide) (by decide) (by decide) (by decide) ?_
        refine re_aloadn (pc := 85) 0 (by decide +kernel : decode cX10_readLine 85 = .ok (.aload_n 0, 1)) rfl ?_
        obtain ⟨u26_, g27_, h⟩ := rv_b_e h
        obtain ⟨x29_, S30_, g31_, h⟩ := rv_bp_e h
        have m28_ := metX10_readWho n S a0 _ _ g31_
        have z32_ : rv_same S S30_ := m28_.sh rfl
        refine re_cV (pc := 86) [] m28_ (rv_okl.k z32_) (rv_up.sh z32_) (by decide) (rv_ck_e g27_) ⟨by decide, rfl⟩ (Nat.le_of_ble_eq_true rfl) lVX10_63 rfl (by decide +kernel : decode cX10_readLine 86 = .ok (.invokevirtual 63, 3)) ?_
        obtain ⟨b_, gb_, h⟩ := rv_b_e h
        obtain ⟨gb1_, gb2_⟩ := rv_bo_e gb_
        refine re_nI (pc := 89) gb1_ ?_
        cases h
        exact re_iret (fun ty hty => by cases hty; exact gb2_) (by decide +kernel : decode cX10_readLine 89 = .ok (.ireturn, 1))
      · skip
        rcases rv_if_e h with ⟨g33_, h⟩ | ⟨g33_, h⟩
        · refine re_tabInE (pc := 34) (off := 56) 90 (by decide +kernel : decode cX10_readLine 34 = .ok (.tableswitch 86 1 8 #[46, 51, 56, 61, 66, 71, 76, 81], 46)) g33_ (by decide) (by decide) (by decide) (by decide) ?_
          refine re_aloadn (pc := 90) 0 (by decide +kernel : decode cX10_readLine 90 = .ok (.aload_n 0, 1)) rfl ?_
          obtain ⟨u34_, g35_, h⟩ := rv_b_e h
          obtain ⟨x37_, S38_, g39_, h⟩ := rv_bp_e h
          have m36_ := metX10_readRoad n S a0 _ _ g39_
          have z40_ : rv_same S S38_ := m36_.sh rfl
          refine re_cV (pc := 91) [] m36_ (rv_okl.k z40_) (rv_up.sh z40_) (by decide) (rv_ck_e g35_) ⟨by decide, rfl⟩ (Nat.le_of_ble_eq_true rfl) lVX10_66 rfl (by decide +kernel : decode cX10_readLine 91 = .ok (.invokevirtual 66, 3)) ?_
          obtain ⟨b_, gb_, h⟩ := rv_b_e h
          obtain ⟨gb1_, gb2_⟩ := rv_bo_e gb_
          refine re_nI (pc := 94) gb1_ ?_
          cases h
          exact re_iret (fun ty hty => by cases hty; exact gb2_) (by decide +kernel : decode cX10_readLine 94 = .ok (.ireturn, 1))
        · skip
          rcases rv_if_e h with ⟨g41_, h⟩ | ⟨g41_, h⟩
          · refine re_tabInE (pc := 34) (off := 61) 95 (by decide +kernel : decode cX10_readLine 34 = .ok (.tableswitch 86 1 8 #[46, 51, 56, 61, 66, 71, 76, 81], 46)) g41_ (by decide) (by decide) (by decide) (by decide) ?_
            refine re_aloadn (pc := 95) 0 (by decide +kernel : decode cX10_readLine 95 = .ok (.aload_n 0, 1)) rfl ?_
            obtain ⟨u42_, g43_, h⟩ := rv_b_e h
            obtain ⟨x45_, S46_, g47_, h⟩ := rv_bp_e h
            have m44_ := metX10_readCoin n S a0 _ _ g47_
            have z48_ : rv_same S S46_ := m44_.sh rfl
            refine re_cV (pc := 96) [] m44_ (rv_okl.k z48_) (rv_up.sh z48_) (by decide) (rv_ck_e g43_) ⟨by decide, rfl⟩ (Nat.le_of_ble_eq_true rfl) lVX10_69 rfl (by decide +kernel : decode cX10_readLine 96 = .ok (.invokevirtual 69, 3)) ?_
            obtain ⟨b_, gb_, h⟩ := rv_b_e h
            obtain ⟨gb1_, gb2_⟩ := rv_bo_e gb_
            refine re_nI (pc := 99) gb1_ ?_
            cases h
            exact re_iret (fun ty hty => by cases hty; exact gb2_) (by decide +kernel : decode cX10_readLine 99 = .ok (.ireturn, 1))
          · skip
            rcases rv_if_e h with ⟨g49_, h⟩ | ⟨g49_, h⟩
            · refine re_tabInE (pc := 34) (off := 66) 100 (by decide +kernel : decode cX10_readLine 34 = .ok (.tableswitch 86 1 8 #[46, 51, 56, 61, 66, 71, 76, 81], 46)) g49_ (by decide) (by decide) (by decide) (by decide) ?_
              refine re_aloadn (pc := 100) 0 (by decide +kernel : decode cX10_readLine 100 = .ok (.aload_n 0, 1)) rfl ?_
              obtain ⟨u50_, g51_, h⟩ := rv_b_e h
              obtain ⟨x53_, S54_, g55_, h⟩ := rv_bp_e h
              have m52_ := metX10_readDebt n S a0 _ _ g55_
              have z56_ : rv_same S S54_ := m52_.sh rfl
              refine re_cV (pc := 101) [] m52_ (rv_okl.k z56_) (rv_up.sh z56_) (by decide) (rv_ck_e g51_) ⟨by decide, rfl⟩ (Nat.le_of_ble_eq_true rfl) lVX10_72 rfl (by decide +kernel : decode cX10_readLine 101 = .ok (.invokevirtual 72, 3)) ?_
              obtain ⟨b_, gb_, h⟩ := rv_b_e h
              obtain ⟨gb1_, gb2_⟩ := rv_bo_e gb_
              refine re_nI (pc := 104) gb1_ ?_
              cases h
              exact re_iret (fun ty hty => by cases hty; exact gb2_) (by decide +kernel : decode cX10_readLine 104 = .ok (.ireturn, 1))
            · skip
              rcases rv_if_e h with ⟨g57_, h⟩ | ⟨g57_, h⟩
              · refine re_tabInE (pc := 34) (off := 71) 105 (by decide +kernel : decode cX10_readLine 34 = .ok (.tableswitch 86 1 8 #[46, 51, 56, 61, 66, 71, 76, 81], 46)) g57_ (by decide) (by decide) (by decide) (by decide) ?_
                refine re_aloadn (pc := 105) 0 (by decide +kernel : decode cX10_readLine 105 = .ok (.aload_n 0, 1)) rfl ?_
                obtain ⟨u58_, g59_, h⟩ := rv_b_e h
                obtain ⟨x61_, S62_, g63_, h⟩ := rv_bp_e h
                have m60_ := metX10_readStranger n S a0 _ _ g63_
                have z64_ : rv_same S S62_ := m60_.sh rfl
                refine re_cV (pc := 106) [] m60_ (rv_okl.k z64_) (rv_up.sh z64_) (by decide) (rv_ck_e g59_) ⟨by decide, rfl⟩ (Nat.le_of_ble_eq_true rfl) lVX10_75 rfl (by decide +kernel : decode cX10_readLine 106 = .ok (.invokevirtual 75, 3)) ?_
                obtain ⟨b_, gb_, h⟩ := rv_b_e h
                obtain ⟨gb1_, gb2_⟩ := rv_bo_e gb_
                refine re_nI (pc := 109) gb1_ ?_
                cases h
                exact re_iret (fun ty hty => by cases hty; exact gb2_) (by decide +kernel : decode cX10_readLine 109 = .ok (.ireturn, 1))
              · skip
                rcases rv_if_e h with ⟨g65_, h⟩ | ⟨g65_, h⟩
                · refine re_tabInE (pc := 34) (off := 76) 110 (by decide +kernel : decode cX10_readLine 34 = .ok (.tableswitch 86 1 8 #[46, 51, 56, 61, 66, 71, 76, 81], 46)) g65_ (by decide) (by decide) (by decide) (by decide) ?_
                  refine re_aloadn (pc := 110) 0 (by decide +kernel : decode cX10_readLine 110 = .ok (.aload_n 0, 1)) rfl ?_
                  obtain ⟨u66_, g67_, h⟩ := rv_b_e h
                  obtain ⟨x69_, S70_, g71_, h⟩ := rv_bp_e h
                  have m68_ := metX10_readFee n S a0 _ _ g71_
                  have z72_ : rv_same S S70_ := m68_.sh rfl
                  refine re_cV (pc := 111) [] m68_ (rv_okl.k z72_) (rv_up.sh z72_) (by decide) (rv_ck_e g67_) ⟨by decide, rfl⟩ (Nat.le_of_ble_eq_true rfl) lVX10_78 rfl (by decide +kernel : decode cX10_readLine 111 = .ok (.invokevirtual 78, 3)) ?_
                  obtain ⟨b_, gb_, h⟩ := rv_b_e h
                  obtain ⟨gb1_, gb2_⟩ := rv_bo_e gb_
                  refine re_nI (pc := 114) gb1_ ?_
                  cases h
                  exact re_iret (fun ty hty => by cases hty; exact gb2_) (by decide +kernel : decode cX10_readLine 114 = .ok (.ireturn, 1))
                · skip
                  rcases rv_if_e h with ⟨g73_, h⟩ | ⟨g73_, h⟩
                  · refine re_tabInE (pc := 34) (off := 81) 115 (by decide +kernel : decode cX10_readLine 34 = .ok (.tableswitch 86 1 8 #[46, 51, 56, 61, 66, 71, 76, 81], 46)) g73_ (by decide) (by decide) (by decide) (by decide) ?_
                    refine re_aloadn (pc := 115) 0 (by decide +kernel : decode cX10_readLine 115 = .ok (.aload_n 0, 1)) rfl ?_
                    obtain ⟨u74_, g75_, h⟩ := rv_b_e h
                    obtain ⟨x77_, S78_, g79_, h⟩ := rv_bp_e h
                    have m76_ := metX10_readLaw n S a0 _ _ g79_
                    have z80_ : rv_same S S78_ := m76_.sh rfl
                    refine re_cV (pc := 116) [] m76_ (rv_okl.k z80_) (rv_up.sh z80_) (by decide) (rv_ck_e g75_) ⟨by decide, rfl⟩ (Nat.le_of_ble_eq_true rfl) lVX10_81 rfl (by decide +kernel : decode cX10_readLine 116 = .ok (.invokevirtual 81, 3)) ?_
                    obtain ⟨b_, gb_, h⟩ := rv_b_e h
                    obtain ⟨gb1_, gb2_⟩ := rv_bo_e gb_
                    refine re_nI (pc := 119) gb1_ ?_
                    cases h
                    exact re_iret (fun ty hty => by cases hty; exact gb2_) (by decide +kernel : decode cX10_readLine 119 = .ok (.ireturn, 1))
                  · skip
                    refine re_tabOut (pc := 34) (dflt := 86) 120 (by decide +kernel : decode cX10_readLine 34 = .ok (.tableswitch 86 1 8 #[46, 51, 56, 61, 66, 71, 76, 81], 46)) (by have z0_ := lv_neT g17_ (a := 1) (by decide); have z1_ := lv_neT g25_ (a := 2) (by decide); have z2_ := lv_neT g33_ (a := 3) (by decide); have z3_ := lv_neT g41_ (a := 4) (by decide); have z4_ := lv_neT g49_ (a := 5) (by decide); have z5_ := lv_neT g57_ (a := 6) (by decide); have z6_ := lv_neT g65_ (a := 7) (by decide); have z7_ := lv_neT g73_ (a := 8) (by decide); omega) (by decide) ?_
                    refine re_aloadn (pc := 120) 0 (by decide +kernel : decode cX10_readLine 120 = .ok (.aload_n 0, 1)) rfl ?_
                    obtain ⟨a81_, g82_, h⟩ := rv_b_e h
                    refine re_gR (pc := 121) g82_ lfX10_9 rfl (by decide +kernel : decode cX10_readLine 121 = .ok (.getfield 9, 3)) ?_
                    refine re_iconst (pc := 124) (1 : Int32) (by decide +kernel : decode cX10_readLine 124 = .ok (.iconst 1, 1)) (by decide) ?_
                    obtain ⟨u83_, g84_, h⟩ := rv_b_e h
                    obtain ⟨x86_, S87_, g88_, h⟩ := rv_bp_e h
                    have m85_ := metX8_fail n S a81_ (1 : Int32) _ _ g88_
                    have z89_ : rv_same S S87_ := m85_.sh rfl
                    refine re_cV (pc := 125) [.int (1 : Int32)] m85_ (rv_okl.k z89_) (rv_up.sh z89_) (by decide) (rv_ck_e g84_) ⟨by decide, rfl⟩ (Nat.le_of_ble_eq_true rfl) lVX10_34 rfl (by decide +kernel : decode cX10_readLine 125 = .ok (.invokevirtual 34, 3)) ?_
                    obtain ⟨b_, gb_, h⟩ := rv_b_e h
                    obtain ⟨gb1_, gb2_⟩ := rv_bo_e gb_
                    refine re_nI (pc := 128) gb1_ ?_
                    cases h
                    exact re_iret (fun ty hty => by cases hty; exact gb2_) (by decide +kernel : decode cX10_readLine 128 = .ok (.ireturn, 1))
  · refine re_icmp_eq_f (pc := 8) 20 (by decide +kernel : decode cX10_readLine 8 = .ok (.if_icmp .eq 12, 3)) (by decide) g5_ ?_
    refine re_aloadn (pc := 11) 0 (by decide +kernel : decode cX10_readLine 11 = .ok (.aload_n 0, 1)) rfl ?_
    obtain ⟨a90_, g91_, h⟩ := rv_b_e h
    refine re_gR (pc := 12) g91_ lfX10_9 rfl (by decide +kernel : decode cX10_readLine 12 = .ok (.getfield 9, 3)) ?_
    refine re_iconst (pc := 15) (1 : Int32) (by decide +kernel : decode cX10_readLine 15 = .ok (.iconst 1, 1)) (by decide) ?_
    obtain ⟨u92_, g93_, h⟩ := rv_b_e h
    obtain ⟨x95_, S96_, g97_, h⟩ := rv_bp_e h
    have m94_ := metX8_fail n S a90_ (1 : Int32) _ _ g97_
    have z98_ : rv_same S S96_ := m94_.sh rfl
    refine re_cV (pc := 16) [.int (1 : Int32)] m94_ (rv_okl.k z98_) (rv_up.sh z98_) (by decide) (rv_ck_e g93_) ⟨by decide, rfl⟩ (Nat.le_of_ble_eq_true rfl) lVX10_34 rfl (by decide +kernel : decode cX10_readLine 16 = .ok (.invokevirtual 34, 3)) ?_
    obtain ⟨b_, gb_, h⟩ := rv_b_e h
    obtain ⟨gb1_, gb2_⟩ := rv_bo_e gb_
    refine re_nI (pc := 19) gb1_ ?_
    cases h
    exact re_iret (fun ty hty => by cases hty; exact gb2_) (by decide +kernel : decode cX10_readLine 19 = .ok (.ireturn, 1))
theorem metX10_readLine (n : Nat) (S : rvS) (a0 : Nat) (r : Int32) (S' : rvS) (h : fnX10_readLine n S a0 = some (r, S')) : rv_Met yX10_readLine mX10_readLine 5 [.ref a0] S (some (.int r)) S' := rv_Met.of ⟨by decide +kernel, rfl, (fun z => by first | rfl | cases z), rfl⟩ (Nat.le_of_ble_eq_true rfl) rfl (eX10_readLine_in n S a0 r S' h)
noncomputable def cX10_read_47 (n : Nat) (S : rvS) (a0 : Nat) : Option (Int32 × rvS) :=
  (rv_gR S 9 a0 0).bind fun a1_ =>
  (rv_ck S 7 a1_).bind fun u3_ =>
  rv_bp (fnX8_fail n S a1_ (1 : Int32)) fun x6_ S7_ =>
  (rv_bo x6_).bind fun b_ =>
  some (b_, S7_)
set_option maxRecDepth 20000 in
set_option maxHeartbeats 4000000 in
theorem eX10_read_47 (n : Nat) (S : rvS) (a0 : Nat) (r : Int32) (S' : rvS) (h : cX10_read_47 n S a0 = some (r, S')) : rv_Ev mX10_read 6 47 [(0, .ref a0)] [] S (some (.int r)) S' := by
  unfold cX10_read_47 at h
  refine re_aloadn (pc := 47) 0 (by decide +kernel : decode cX10_read 47 = .ok (.aload_n 0, 1)) rfl ?_
  obtain ⟨a1_, g2_, h⟩ := rv_b_e h
  refine re_gR (pc := 48) g2_ lfX10_9 rfl (by decide +kernel : decode cX10_read 48 = .ok (.getfield 9, 3)) ?_
  refine re_iconst (pc := 51) (1 : Int32) (by decide +kernel : decode cX10_read 51 = .ok (.iconst 1, 1)) (by decide) ?_
  obtain ⟨u3_, g4_, h⟩ := rv_b_e h
  obtain ⟨x6_, S7_, g8_, h⟩ := rv_bp_e h
  have m5_ := metX8_fail n S a1_ (1 : Int32) _ _ g8_
  have z9_ : rv_same S S7_ := m5_.sh rfl
  refine re_cV (pc := 52) [.int (1 : Int32)] m5_ (rv_okl.k z9_) (rv_up.sh z9_) (by decide) (rv_ck_e g4_) ⟨by decide, rfl⟩ (Nat.le_of_ble_eq_true rfl) lVX10_34 rfl (by decide +kernel : decode cX10_read 52 = .ok (.invokevirtual 34, 3)) ?_
  obtain ⟨b_, gb_, h⟩ := rv_b_e h
  obtain ⟨gb1_, gb2_⟩ := rv_bo_e gb_
  refine re_nI (pc := 55) gb1_ ?_
  cases h
  exact re_iret (fun ty hty => by cases hty; exact gb2_) (by decide +kernel : decode cX10_read 55 = .ok (.ireturn, 1))
noncomputable def cX10_read_9 (n : Nat) : Nat → rvS → Nat → Int32 → Option (Int32 × rvS)
  | 0, _, _, _ => none
  | k + 1, S, a0, x1 =>
    if (900 : Int32) ≤ x1 then (
      some ((1 : Int32), S))
    else (
      (rv_gR S 9 a0 0).bind fun a2_ =>
      (rv_gI S 7 a2_ 4).bind fun x4_ =>
      if x4_ = 0 then (
        some ((1 : Int32), S))
      else (
        (rv_ck S 9 a0).bind fun u7_ =>
        rv_bp (fnX10_readLine n S a0) fun x10_ S11_ =>
        if x10_ = 0 then (
          some ((0 : Int32), S11_))
        else (
          (rv_gR S11_ 9 a0 0).bind fun a15_ =>
          (rv_gI S11_ 7 a15_ 4).bind fun x17_ =>
          if x17_ = (59 : Int32) then (
            (rv_gR S11_ 9 a0 0).bind fun a20_ =>
            (rv_ck S11_ 7 a20_).bind fun u22_ =>
            (fnX8_next n S11_ a20_).bind fun S25_ =>
            (rv_gI S25_ 9 a0 2).bind fun x28_ =>
            (rv_pI S25_ 9 a0 2 (x28_ + (1 : Int32))).bind fun S30_ =>
            rv_lt (x1 + (1)) fun x32_ =>
            cX10_read_9 n k S30_ a0 x32_)
          else (
            cX10_read_47 n S11_ a0))))
set_option maxRecDepth 20000 in
set_option maxHeartbeats 4000000 in
theorem eX10_read_9 (n : Nat) : ∀ (k : Nat) (S : rvS) (a0 : Nat) (x1 : Int32) (r : Int32) (S' : rvS), cX10_read_9 n k S a0 x1 = some (r, S') → rv_Ev mX10_read 6 9 [(0, .ref a0), (1, .int x1)] [] S (some (.int r)) S' := by
  intro k
  induction k with
  | zero => intro S a0 x1 r S' h; exact absurd h (by simp [cX10_read_9])
  | succ k ih =>
    intro S a0 x1 r S' h
    unfold cX10_read_9 at h
    refine re_iloadn (pc := 9) 1 (by decide +kernel : decode cX10_read 9 = .ok (.iload_n 1, 1)) rfl ?_
    refine re_sipush (pc := 10) (900 : Int32) (by decide +kernel : decode cX10_read 10 = .ok (.sipush 900, 3)) (by decide) ?_
    rcases rv_if_e h with ⟨g1_, h⟩ | ⟨g1_, h⟩
    · refine re_icmp_ge_t (pc := 13) 79 (by decide +kernel : decode cX10_read 13 = .ok (.if_icmp .ge 66, 3)) (by decide) g1_ ?_
      refine re_iconst (pc := 79) (1 : Int32) (by decide +kernel : decode cX10_read 79 = .ok (.iconst 1, 1)) (by decide) ?_
      cases h
      exact re_iret (fun ty hty => by cases hty; rfl) (by decide +kernel : decode cX10_read 80 = .ok (.ireturn, 1))
    · refine re_icmp_ge_f (pc := 13) 79 (by decide +kernel : decode cX10_read 13 = .ok (.if_icmp .ge 66, 3)) (by decide) g1_ ?_
      refine re_aloadn (pc := 16) 0 (by decide +kernel : decode cX10_read 16 = .ok (.aload_n 0, 1)) rfl ?_
      obtain ⟨a2_, g3_, h⟩ := rv_b_e h
      refine re_gR (pc := 17) g3_ lfX10_9 rfl (by decide +kernel : decode cX10_read 17 = .ok (.getfield 9, 3)) ?_
      obtain ⟨x4_, g5_, h⟩ := rv_b_e h
      refine re_gI (pc := 20) g5_ lfX10_24 rfl (by decide +kernel : decode cX10_read 20 = .ok (.getfield 24, 3)) ?_
      rcases rv_if_e h with ⟨g6_, h⟩ | ⟨g6_, h⟩
      · refine re_if_eq_t (pc := 23) 79 (by decide +kernel : decode cX10_read 23 = .ok (.ifCond .eq 56, 3)) (by decide) g6_ ?_
        refine re_iconst (pc := 79) (1 : Int32) (by decide +kernel : decode cX10_read 79 = .ok (.iconst 1, 1)) (by decide) ?_
        cases h
        exact re_iret (fun ty hty => by cases hty; rfl) (by decide +kernel : decode cX10_read 80 = .ok (.ireturn, 1))
      · refine re_if_eq_f (pc := 23) 79 (by decide +kernel : decode cX10_read 23 = .ok (.ifCond .eq 56, 3)) (by decide) g6_ ?_
        refine re_aloadn (pc := 26) 0 (by decide +kernel : decode cX10_read 26 = .ok (.aload_n 0, 1)) rfl ?_
        obtain ⟨u7_, g8_, h⟩ := rv_b_e h
        obtain ⟨x10_, S11_, g12_, h⟩ := rv_bp_e h
        have m9_ := metX10_readLine n S a0 _ _ g12_
        have z13_ : rv_same S S11_ := m9_.sh rfl
        refine re_cV (pc := 27) [] m9_ (rv_okl.k z13_) (rv_up.sh z13_) (by decide) (rv_ck_e g8_) ⟨by decide, rfl⟩ (Nat.le_of_ble_eq_true rfl) lVX10_30 rfl (by decide +kernel : decode cX10_read 27 = .ok (.invokevirtual 30, 3)) ?_
        rcases rv_if_e h with ⟨g14_, h⟩ | ⟨g14_, h⟩
        · refine re_if_ne_f (pc := 30) 35 (by decide +kernel : decode cX10_read 30 = .ok (.ifCond .ne 5, 3)) (by decide) g14_ ?_
          refine re_iconst (pc := 33) (0 : Int32) (by decide +kernel : decode cX10_read 33 = .ok (.iconst 0, 1)) (by decide) ?_
          cases h
          exact re_iret (fun ty hty => by cases hty; rfl) (by decide +kernel : decode cX10_read 34 = .ok (.ireturn, 1))
        · refine re_if_ne_t (pc := 30) 35 (by decide +kernel : decode cX10_read 30 = .ok (.ifCond .ne 5, 3)) (by decide) g14_ ?_
          refine re_aloadn (pc := 35) 0 (by decide +kernel : decode cX10_read 35 = .ok (.aload_n 0, 1)) rfl ?_
          obtain ⟨a15_, g16_, h⟩ := rv_b_e h
          refine re_gR (pc := 36) g16_ lfX10_9 rfl (by decide +kernel : decode cX10_read 36 = .ok (.getfield 9, 3)) ?_
          obtain ⟨x17_, g18_, h⟩ := rv_b_e h
          refine re_gI (pc := 39) g18_ lfX10_24 rfl (by decide +kernel : decode cX10_read 39 = .ok (.getfield 24, 3)) ?_
          refine re_bipush (pc := 42) (59 : Int32) (by decide +kernel : decode cX10_read 42 = .ok (.bipush 59, 2)) (by decide) ?_
          rcases rv_if_e h with ⟨g19_, h⟩ | ⟨g19_, h⟩
          · refine re_icmp_eq_t (pc := 44) 56 (by decide +kernel : decode cX10_read 44 = .ok (.if_icmp .eq 12, 3)) (by decide) g19_ ?_
            refine re_aloadn (pc := 56) 0 (by decide +kernel : decode cX10_read 56 = .ok (.aload_n 0, 1)) rfl ?_
            obtain ⟨a20_, g21_, h⟩ := rv_b_e h
            refine re_gR (pc := 57) g21_ lfX10_9 rfl (by decide +kernel : decode cX10_read 57 = .ok (.getfield 9, 3)) ?_
            obtain ⟨u22_, g23_, h⟩ := rv_b_e h
            obtain ⟨S25_, g26_, h⟩ := rv_b_e h
            have m24_ := metX8_next n S11_ a20_ _ g26_
            have z27_ : rv_same S11_ S25_ := m24_.sh rfl
            refine re_cV (pc := 60) [] m24_ (rv_okl.k z27_) (rv_up.sh z27_) (by decide) (rv_ck_e g23_) ⟨by decide, rfl⟩ (Nat.le_of_ble_eq_true rfl) lVX10_38 rfl (by decide +kernel : decode cX10_read 60 = .ok (.invokevirtual 38, 3)) ?_
            refine re_aloadn (pc := 63) 0 (by decide +kernel : decode cX10_read 63 = .ok (.aload_n 0, 1)) rfl ?_
            refine re_dup (pc := 64) (by decide +kernel : decode cX10_read 64 = .ok (.dup, 1)) rfl ?_
            obtain ⟨x28_, g29_, h⟩ := rv_b_e h
            refine re_gI (pc := 65) g29_ lfX10_41 rfl (by decide +kernel : decode cX10_read 65 = .ok (.getfield 41, 3)) ?_
            refine re_iconst (pc := 68) (1 : Int32) (by decide +kernel : decode cX10_read 68 = .ok (.iconst 1, 1)) (by decide) ?_
            refine re_iadd (pc := 69) (by decide +kernel : decode cX10_read 69 = .ok (.iadd, 1)) ?_
            obtain ⟨S30_, g31_, h⟩ := rv_b_e h
            refine re_pI (pc := 70) g31_ lfX10_41 rfl rfl rfl rfl (by decide +kernel : decode cX10_read 70 = .ok (.putfield 41, 3)) ?_
            obtain ⟨x32_, g33_, h⟩ := rv_lt_e h
            refine re_iinc (pc := 73) 1 x32_ (lv1 := [(1, .int x32_), (0, .ref a0)]) (by decide +kernel : decode cX10_read 73 = .ok (.iinc 1 1, 3)) rfl g33_ (by decide) rfl ?_
            refine re_goto (pc := 76) 9 (by decide +kernel : decode cX10_read 76 = .ok (.goto (-67), 3)) (by decide) ?_
            refine re_sub [1, 0] (lv1 := [(0, .ref a0), (1, .int x32_)]) rfl ?_
            exact ih S30_ a0 x32_ _ _ h
          · refine re_icmp_eq_f (pc := 44) 56 (by decide +kernel : decode cX10_read 44 = .ok (.if_icmp .eq 12, 3)) (by decide) g19_ ?_
            refine re_sub [0] (lv1 := [(0, .ref a0)]) rfl ?_
            exact eX10_read_47 n S11_ a0 _ _ h
noncomputable def fnX10_read (n : Nat) (S : rvS) (a0 : Nat) : Option (Int32 × rvS) :=
  (rv_gR S 9 a0 1).bind fun a1_ =>
  (rv_ck S 8 a1_).bind fun u3_ =>
  (fnX9_empty n S a1_).bind fun S6_ =>
  cX10_read_9 n n S6_ a0 (0 : Int32)
set_option maxRecDepth 20000 in
set_option maxHeartbeats 4000000 in
theorem eX10_read_in (n : Nat) (S : rvS) (a0 : Nat) (r : Int32) (S' : rvS) (h : fnX10_read n S a0 = some (r, S')) : rv_Ev mX10_read 6 0 [(0, .ref a0)] [] S (some (.int r)) S' := by
  unfold fnX10_read at h
  refine re_aloadn (pc := 0) 0 (by decide +kernel : decode cX10_read 0 = .ok (.aload_n 0, 1)) rfl ?_
  obtain ⟨a1_, g2_, h⟩ := rv_b_e h
  refine re_gR (pc := 1) g2_ lfX10_15 rfl (by decide +kernel : decode cX10_read 1 = .ok (.getfield 15, 3)) ?_
  obtain ⟨u3_, g4_, h⟩ := rv_b_e h
  obtain ⟨S6_, g7_, h⟩ := rv_b_e h
  have m5_ := metX9_empty n S a1_ _ g7_
  have z8_ : rv_same S S6_ := m5_.sh rfl
  refine re_cV (pc := 4) [] m5_ (rv_okl.k z8_) (rv_up.sh z8_) (by decide) (rv_ck_e g4_) ⟨by decide, rfl⟩ (Nat.le_of_ble_eq_true rfl) lVX10_19 rfl (by decide +kernel : decode cX10_read 4 = .ok (.invokevirtual 19, 3)) ?_
  refine re_iconst (pc := 7) (0 : Int32) (by decide +kernel : decode cX10_read 7 = .ok (.iconst 0, 1)) (by decide) ?_
  refine re_istoren (pc := 8) (lv1 := [(1, .int (0 : Int32)), (0, .ref a0)]) (by decide +kernel : decode cX10_read 8 = .ok (.istore_n 1, 1)) rfl (by decide) rfl ?_
  refine re_sub [1, 0] (lv1 := [(0, .ref a0), (1, .int (0 : Int32))]) rfl ?_
  exact eX10_read_9 n n S6_ a0 (0 : Int32) _ _ h
theorem metX10_read (n : Nat) (S : rvS) (a0 : Nat) (r : Int32) (S' : rvS) (h : fnX10_read n S a0 = some (r, S')) : rv_Met yX10_read mX10_read 6 [.ref a0] S (some (.int r)) S' := rv_Met.of ⟨by decide +kernel, rfl, (fun z => by first | rfl | cases z), rfl⟩ (Nat.le_of_ble_eq_true rfl) rfl (eX10_read_in n S a0 r S' h)
noncomputable def cX12_init_102 (n : Nat) : Nat → rvS → Nat → Int32 → Option rvS
  | 0, _, _, _ => none
  | k + 1, S, a0, x1 =>
    (rv_vl S a0).bind fun _ =>
    if (2 : Int32) ≤ x1 then (
      some S)
    else (
      (rv_gV S 10 a0 3).bind fun a3_ =>
      rv_lt (64 + S.1.length) fun a6_ =>
      rv_lt (rv_new S (8, rv_N 8)) fun S8_ =>
      (fnX9_init n S8_ a6_).bind fun S14_ =>
      (rv_uQ S14_ 5 8 a3_ x1 a6_).bind fun S19_ =>
      rv_lt (x1 + (1)) fun x24_ =>
      cX12_init_102 n k S19_ a0 x24_)
set_option maxRecDepth 20000 in
set_option maxHeartbeats 4000000 in
theorem eX12_init_102 (n : Nat) : ∀ (k : Nat) (S : rvS) (a0 : Nat) (x1 : Int32) (S' : rvS), cX12_init_102 n k S a0 x1 = some S' → rv_Ev mX12_init 3 102 [(0, .ref a0), (1, .int x1)] [] S none S' := by
  intro k
  induction k with
  | zero => intro S a0 x1 S' h; exact absurd h (by simp [cX12_init_102])
  | succ k ih =>
    intro S a0 x1 S' h
    unfold cX12_init_102 at h
    obtain ⟨_, g1_, h⟩ := rv_b_e h
    refine re_iloadn (pc := 102) 1 (by decide +kernel : decode cX12_init 102 = .ok (.iload_n 1, 1)) rfl ?_
    refine re_iconst (pc := 103) (2 : Int32) (by decide +kernel : decode cX12_init 103 = .ok (.iconst 2, 1)) (by decide) ?_
    rcases rv_if_e h with ⟨g2_, h⟩ | ⟨g2_, h⟩
    · refine re_icmp_ge_t (pc := 104) 126 (by decide +kernel : decode cX12_init 104 = .ok (.if_icmp .ge 22, 3)) (by decide) g2_ ?_
      cases h
      exact re_vret (by decide +kernel : decode cX12_init 126 = .ok (.return_, 1))
    · refine re_icmp_ge_f (pc := 104) 126 (by decide +kernel : decode cX12_init 104 = .ok (.if_icmp .ge 22, 3)) (by decide) g2_ ?_
      refine re_aloadn (pc := 107) 0 (by decide +kernel : decode cX12_init 107 = .ok (.aload_n 0, 1)) rfl ?_
      obtain ⟨a3_, g4_, h⟩ := rv_b_e h
      have o5_ := (rv_gV_e g4_).2
      refine re_gR (pc := 108) (rv_gV_e g4_).1 lfX12_26 rfl (by decide +kernel : decode cX12_init 108 = .ok (.getfield 26, 3)) ?_
      refine re_iloadn (pc := 111) 1 (by decide +kernel : decode cX12_init 111 = .ok (.iload_n 1, 1)) rfl ?_
      refine re_new (pc := 112) (c := 8) rfl (rv_alv (List.forall_mem_cons.mpr ⟨(rv_vl_e g1_), (List.forall_mem_cons.mpr ⟨trivial, (fun _ z => absurd z List.not_mem_nil)⟩)⟩)) ((List.forall_mem_cons.mpr ⟨trivial, (List.forall_mem_cons.mpr ⟨o5_, (fun _ z => absurd z List.not_mem_nil)⟩)⟩)) (by decide) (rw1 86 (by decide +kernel) rfl) (rw1 87 (by decide +kernel) rfl) (rw1 5 (by decide +kernel) rfl) (by decide +kernel : decode cX12_init 112 = .ok (.new 16, 3)) ?_
      obtain ⟨a6_, g7_, h⟩ := rv_lt_e h
      refine re_nR g7_ ?_
      obtain ⟨S8_, g9_, h⟩ := rv_lt_e h
      refine re_nS g9_ ?_
      have o10_ : a0 < 64 + S8_.1.length := rv_okn g9_ (rv_vl_e g1_)
      have o11_ : a3_ < 64 + S8_.1.length := rv_okn g9_ o5_
      have o12_ : a6_ < 64 + S8_.1.length := by rw [← g7_]; exact rv_okn0 g9_
      refine re_dup (pc := 115) (by decide +kernel : decode cX12_init 115 = .ok (.dup, 1)) rfl ?_
      obtain ⟨S14_, g15_, h⟩ := rv_b_e h
      have m13_ := metX9_init n S8_ a6_ _ g15_
      have o16_ : a0 < 64 + S14_.1.length := Nat.lt_of_lt_of_le o10_ (Nat.add_le_add_left m13_.1.2.1 64)
      have o17_ : a3_ < 64 + S14_.1.length := Nat.lt_of_lt_of_le o11_ (Nat.add_le_add_left m13_.1.2.1 64)
      have o18_ : a6_ < 64 + S14_.1.length := Nat.lt_of_lt_of_le o12_ (Nat.add_le_add_left m13_.1.2.1 64)
      refine re_cI (pc := 116) (st := [.ref a6_, .int x1, .ref a3_]) [] m13_ (rv_okl.n (rv_alv (List.forall_mem_cons.mpr ⟨o10_, (List.forall_mem_cons.mpr ⟨trivial, (fun _ z => absurd z List.not_mem_nil)⟩)⟩)) ((List.forall_mem_cons.mpr ⟨o12_, (List.forall_mem_cons.mpr ⟨trivial, (List.forall_mem_cons.mpr ⟨o11_, (fun _ z => absurd z List.not_mem_nil)⟩)⟩)⟩))) ⟨fun z => absurd z (by decide), m13_.1.2⟩ (by decide) (Nat.le_of_ble_eq_true rfl) lIX12_18 rfl (by decide +kernel : decode cX12_init 116 = .ok (.invokespecial 18, 3)) ?_
      obtain ⟨S19_, g20_, h⟩ := rv_b_e h
      have o21_ : a0 < 64 + S19_.1.length := by rw [rv_uQ_sh g20_]; exact o16_
      have o22_ : a3_ < 64 + S19_.1.length := by rw [rv_uQ_sh g20_]; exact o17_
      have o23_ : a6_ < 64 + S19_.1.length := by rw [rv_uQ_sh g20_]; exact o18_
      refine re_uQ (pc := 119) (t := 1) (c := 8) (by decide) g20_ (by decide +kernel : decode cX12_init 119 = .ok (.aastore, 1)) ?_
      obtain ⟨x24_, g25_, h⟩ := rv_lt_e h
      refine re_iinc (pc := 120) 1 x24_ (lv1 := [(1, .int x24_), (0, .ref a0)]) (by decide +kernel : decode cX12_init 120 = .ok (.iinc 1 1, 3)) rfl g25_ (by decide) rfl ?_
      refine re_goto (pc := 123) 102 (by decide +kernel : decode cX12_init 123 = .ok (.goto (-21), 3)) (by decide) ?_
      refine re_sub [1, 0] (lv1 := [(0, .ref a0), (1, .int x24_)]) rfl ?_
      exact ih S19_ a0 x24_ _ h
noncomputable def fnX12_init (n : Nat) (S : rvS) (a0 : Nat) : Option rvS :=
  (rv_vl S a0).bind fun _ =>
  rv_lt (64 + S.1.length) fun a2_ =>
  rv_lt (rv_new S (7, rv_N 7)) fun S4_ =>
  (fnX8_init n S4_ a2_).bind fun S9_ =>
  (rv_pR S9_ 10 a0 0 a2_).bind fun S13_ =>
  rv_lt (64 + S13_.1.length) fun a17_ =>
  rv_lt (rv_new S13_ (8, rv_N 8)) fun S19_ =>
  (fnX9_init n S19_ a17_).bind fun S25_ =>
  (rv_pR S25_ 10 a0 1 a17_).bind fun S30_ =>
  rv_lt (64 + S30_.1.length) fun a35_ =>
  rv_lt (rv_new S30_ (8, rv_N 8)) fun S37_ =>
  (fnX9_init n S37_ a35_).bind fun S44_ =>
  (rv_pR S44_ 10 a0 2 a35_).bind fun S50_ =>
  rv_lt (64 + S50_.1.length) fun a56_ =>
  rv_lt (rv_new S50_ (55, 2)) fun S58_ =>
  (rv_pR S58_ 10 a0 3 a56_).bind fun S65_ =>
  rv_lt (64 + S65_.1.length) fun a72_ =>
  rv_lt (rv_new S65_ (4, rv_N 4)) fun S74_ =>
  (fnX5_init n S74_ a72_).bind fun S83_ =>
  (rv_pR S83_ 10 a0 5 a72_).bind fun S91_ =>
  rv_lt (64 + S91_.1.length) fun a99_ =>
  rv_lt (rv_new S91_ (1, rv_N 1)) fun S101_ =>
  (fnX2_init n S101_ a99_).bind fun S111_ =>
  (rv_pR S111_ 10 a0 6 a99_).bind fun S120_ =>
  rv_lt (64 + S120_.1.length) fun a129_ =>
  rv_lt (rv_new S120_ (3, rv_N 3)) fun S131_ =>
  (fnX4_init n S131_ a129_).bind fun S142_ =>
  (rv_pR S142_ 10 a0 7 a129_).bind fun S152_ =>
  rv_lt (64 + S152_.1.length) fun a162_ =>
  rv_lt (rv_new S152_ (2, rv_N 2)) fun S164_ =>
  (fnX3_init n S164_ a162_).bind fun u176_ =>
  (rv_pR S164_ 10 a0 8 a162_).bind fun S178_ =>
  rv_lt (64 + S178_.1.length) fun a189_ =>
  rv_lt (rv_new S178_ (2, rv_N 2)) fun S191_ =>
  (fnX3_init n S191_ a189_).bind fun u204_ =>
  (rv_pR S191_ 10 a0 9 a189_).bind fun S206_ =>
  cX12_init_102 n n S206_ a0 (0 : Int32)
set_option maxRecDepth 20000 in
set_option maxHeartbeats 4000000 in
theorem eX12_init_in (n : Nat) (S : rvS) (a0 : Nat) (S' : rvS) (h : fnX12_init n S a0 = some S') : rv_Ev mX12_init 3 0 [(0, .ref a0)] [] S none S' := by
  unfold fnX12_init at h
  obtain ⟨_, g1_, h⟩ := rv_b_e h
  refine re_aloadn (pc := 0) 0 (by decide +kernel : decode cX12_init 0 = .ok (.aload_n 0, 1)) rfl ?_
  refine re_obj (pc := 1) (rw1 28 (by decide +kernel) rfl) rwoi rwoc (Nat.le_of_ble_eq_true rfl) (by decide) (by decide +kernel : decode cX12_init 1 = .ok (.invokespecial 1, 3)) ?_
  refine re_aloadn (pc := 4) 0 (by decide +kernel : decode cX12_init 4 = .ok (.aload_n 0, 1)) rfl ?_
  refine re_new (pc := 5) (c := 7) rfl (rv_alv (List.forall_mem_cons.mpr ⟨(rv_vl_e g1_), (fun _ z => absurd z List.not_mem_nil)⟩)) ((List.forall_mem_cons.mpr ⟨(rv_vl_e g1_), (fun _ z => absurd z List.not_mem_nil)⟩)) (by decide) (rw1 31 (by decide +kernel) rfl) (rw1 32 (by decide +kernel) rfl) (rw1 2 (by decide +kernel) rfl) (by decide +kernel : decode cX12_init 5 = .ok (.new 7, 3)) ?_
  obtain ⟨a2_, g3_, h⟩ := rv_lt_e h
  refine re_nR g3_ ?_
  obtain ⟨S4_, g5_, h⟩ := rv_lt_e h
  refine re_nS g5_ ?_
  have o6_ : a0 < 64 + S4_.1.length := rv_okn g5_ (rv_vl_e g1_)
  have o7_ : a2_ < 64 + S4_.1.length := by rw [← g3_]; exact rv_okn0 g5_
  refine re_dup (pc := 8) (by decide +kernel : decode cX12_init 8 = .ok (.dup, 1)) rfl ?_
  obtain ⟨S9_, g10_, h⟩ := rv_b_e h
  have m8_ := metX8_init n S4_ a2_ _ g10_
  have o11_ : a0 < 64 + S9_.1.length := Nat.lt_of_lt_of_le o6_ (Nat.add_le_add_left m8_.1.2.1 64)
  have o12_ : a2_ < 64 + S9_.1.length := Nat.lt_of_lt_of_le o7_ (Nat.add_le_add_left m8_.1.2.1 64)
  refine re_cI (pc := 9) (st := [.ref a2_, .ref a0]) [] m8_ (rv_okl.n (rv_alv (List.forall_mem_cons.mpr ⟨o6_, (fun _ z => absurd z List.not_mem_nil)⟩)) ((List.forall_mem_cons.mpr ⟨o7_, (List.forall_mem_cons.mpr ⟨o6_, (fun _ z => absurd z List.not_mem_nil)⟩)⟩))) ⟨fun z => absurd z (by decide), m8_.1.2⟩ (by decide) (Nat.le_of_ble_eq_true rfl) lIX12_9 rfl (by decide +kernel : decode cX12_init 9 = .ok (.invokespecial 9, 3)) ?_
  obtain ⟨S13_, g14_, h⟩ := rv_b_e h
  have o15_ : a0 < 64 + S13_.1.length := by rw [rv_pR_sh g14_]; exact o11_
  have o16_ : a2_ < 64 + S13_.1.length := by rw [rv_pR_sh g14_]; exact o12_
  refine re_pR (pc := 12) g14_ lfX12_10 rfl (Or.inr ⟨rfl, rfl, rfl, (rw2 139 (by decide +kernel) rfl)⟩) (by decide +kernel : decode cX12_init 12 = .ok (.putfield 10, 3)) ?_
  refine re_aloadn (pc := 15) 0 (by decide +kernel : decode cX12_init 15 = .ok (.aload_n 0, 1)) rfl ?_
  refine re_new (pc := 16) (c := 8) rfl (rv_alv (List.forall_mem_cons.mpr ⟨o15_, (fun _ z => absurd z List.not_mem_nil)⟩)) ((List.forall_mem_cons.mpr ⟨o15_, (fun _ z => absurd z List.not_mem_nil)⟩)) (by decide) (rw1 86 (by decide +kernel) rfl) (rw1 87 (by decide +kernel) rfl) (rw1 5 (by decide +kernel) rfl) (by decide +kernel : decode cX12_init 16 = .ok (.new 16, 3)) ?_
  obtain ⟨a17_, g18_, h⟩ := rv_lt_e h
  refine re_nR g18_ ?_
  obtain ⟨S19_, g20_, h⟩ := rv_lt_e h
  refine re_nS g20_ ?_
  have o21_ : a0 < 64 + S19_.1.length := rv_okn g20_ o15_
  have o22_ : a2_ < 64 + S19_.1.length := rv_okn g20_ o16_
  have o23_ : a17_ < 64 + S19_.1.length := by rw [← g18_]; exact rv_okn0 g20_
  refine re_dup (pc := 19) (by decide +kernel : decode cX12_init 19 = .ok (.dup, 1)) rfl ?_
  obtain ⟨S25_, g26_, h⟩ := rv_b_e h
  have m24_ := metX9_init n S19_ a17_ _ g26_
  have o27_ : a0 < 64 + S25_.1.length := Nat.lt_of_lt_of_le o21_ (Nat.add_le_add_left m24_.1.2.1 64)
  have o28_ : a2_ < 64 + S25_.1.length := Nat.lt_of_lt_of_le o22_ (Nat.add_le_add_left m24_.1.2.1 64)
  have o29_ : a17_ < 64 + S25_.1.length := Nat.lt_of_lt_of_le o23_ (Nat.add_le_add_left m24_.1.2.1 64)
  refine re_cI (pc := 20) (st := [.ref a17_, .ref a0]) [] m24_ (rv_okl.n (rv_alv (List.forall_mem_cons.mpr ⟨o21_, (fun _ z => absurd z List.not_mem_nil)⟩)) ((List.forall_mem_cons.mpr ⟨o23_, (List.forall_mem_cons.mpr ⟨o21_, (fun _ z => absurd z List.not_mem_nil)⟩)⟩))) ⟨fun z => absurd z (by decide), m24_.1.2⟩ (by decide) (Nat.le_of_ble_eq_true rfl) lIX12_18 rfl (by decide +kernel : decode cX12_init 20 = .ok (.invokespecial 18, 3)) ?_
  obtain ⟨S30_, g31_, h⟩ := rv_b_e h
  have o32_ : a0 < 64 + S30_.1.length := by rw [rv_pR_sh g31_]; exact o27_
  have o33_ : a2_ < 64 + S30_.1.length := by rw [rv_pR_sh g31_]; exact o28_
  have o34_ : a17_ < 64 + S30_.1.length := by rw [rv_pR_sh g31_]; exact o29_
  refine re_pR (pc := 23) g31_ lfX12_19 rfl (Or.inr ⟨rfl, rfl, rfl, (rw2 140 (by decide +kernel) rfl)⟩) (by decide +kernel : decode cX12_init 23 = .ok (.putfield 19, 3)) ?_
  refine re_aloadn (pc := 26) 0 (by decide +kernel : decode cX12_init 26 = .ok (.aload_n 0, 1)) rfl ?_
  refine re_new (pc := 27) (c := 8) rfl (rv_alv (List.forall_mem_cons.mpr ⟨o32_, (fun _ z => absurd z List.not_mem_nil)⟩)) ((List.forall_mem_cons.mpr ⟨o32_, (fun _ z => absurd z List.not_mem_nil)⟩)) (by decide) (rw1 86 (by decide +kernel) rfl) (rw1 87 (by decide +kernel) rfl) (rw1 5 (by decide +kernel) rfl) (by decide +kernel : decode cX12_init 27 = .ok (.new 16, 3)) ?_
  obtain ⟨a35_, g36_, h⟩ := rv_lt_e h
  refine re_nR g36_ ?_
  obtain ⟨S37_, g38_, h⟩ := rv_lt_e h
  refine re_nS g38_ ?_
  have o39_ : a0 < 64 + S37_.1.length := rv_okn g38_ o32_
  have o40_ : a2_ < 64 + S37_.1.length := rv_okn g38_ o33_
  have o41_ : a17_ < 64 + S37_.1.length := rv_okn g38_ o34_
  have o42_ : a35_ < 64 + S37_.1.length := by rw [← g36_]; exact rv_okn0 g38_
  refine re_dup (pc := 30) (by decide +kernel : decode cX12_init 30 = .ok (.dup, 1)) rfl ?_
  obtain ⟨S44_, g45_, h⟩ := rv_b_e h
  have m43_ := metX9_init n S37_ a35_ _ g45_
  have o46_ : a0 < 64 + S44_.1.length := Nat.lt_of_lt_of_le o39_ (Nat.add_le_add_left m43_.1.2.1 64)
  have o47_ : a2_ < 64 + S44_.1.length := Nat.lt_of_lt_of_le o40_ (Nat.add_le_add_left m43_.1.2.1 64)
  have o48_ : a17_ < 64 + S44_.1.length := Nat.lt_of_lt_of_le o41_ (Nat.add_le_add_left m43_.1.2.1 64)
  have o49_ : a35_ < 64 + S44_.1.length := Nat.lt_of_lt_of_le o42_ (Nat.add_le_add_left m43_.1.2.1 64)
  refine re_cI (pc := 31) (st := [.ref a35_, .ref a0]) [] m43_ (rv_okl.n (rv_alv (List.forall_mem_cons.mpr ⟨o39_, (fun _ z => absurd z List.not_mem_nil)⟩)) ((List.forall_mem_cons.mpr ⟨o42_, (List.forall_mem_cons.mpr ⟨o39_, (fun _ z => absurd z List.not_mem_nil)⟩)⟩))) ⟨fun z => absurd z (by decide), m43_.1.2⟩ (by decide) (Nat.le_of_ble_eq_true rfl) lIX12_18 rfl (by decide +kernel : decode cX12_init 31 = .ok (.invokespecial 18, 3)) ?_
  obtain ⟨S50_, g51_, h⟩ := rv_b_e h
  have o52_ : a0 < 64 + S50_.1.length := by rw [rv_pR_sh g51_]; exact o46_
  have o53_ : a2_ < 64 + S50_.1.length := by rw [rv_pR_sh g51_]; exact o47_
  have o54_ : a17_ < 64 + S50_.1.length := by rw [rv_pR_sh g51_]; exact o48_
  have o55_ : a35_ < 64 + S50_.1.length := by rw [rv_pR_sh g51_]; exact o49_
  refine re_pR (pc := 34) g51_ lfX12_23 rfl (Or.inr ⟨rfl, rfl, rfl, (rw2 141 (by decide +kernel) rfl)⟩) (by decide +kernel : decode cX12_init 34 = .ok (.putfield 23, 3)) ?_
  refine re_aloadn (pc := 37) 0 (by decide +kernel : decode cX12_init 37 = .ok (.aload_n 0, 1)) rfl ?_
  refine re_iconst (pc := 38) (2 : Int32) (by decide +kernel : decode cX12_init 38 = .ok (.iconst 2, 1)) (by decide) ?_
  refine re_newq (pc := 39) (t := 1) (N := 2) rfl (rv_alv (List.forall_mem_cons.mpr ⟨o52_, (fun _ z => absurd z List.not_mem_nil)⟩)) ((List.forall_mem_cons.mpr ⟨o52_, (fun _ z => absurd z List.not_mem_nil)⟩)) (by decide) rfl (rw1 86 (by decide +kernel) rfl) (by decide) (by decide) (by decide) (by decide +kernel : decode cX12_init 39 = .ok (.anewarray 16, 3)) ?_
  obtain ⟨a56_, g57_, h⟩ := rv_lt_e h
  refine re_nR g57_ ?_
  obtain ⟨S58_, g59_, h⟩ := rv_lt_e h
  refine re_nS g59_ ?_
  have o60_ : a0 < 64 + S58_.1.length := rv_okn g59_ o52_
  have o61_ : a2_ < 64 + S58_.1.length := rv_okn g59_ o53_
  have o62_ : a17_ < 64 + S58_.1.length := rv_okn g59_ o54_
  have o63_ : a35_ < 64 + S58_.1.length := rv_okn g59_ o55_
  have o64_ : a56_ < 64 + S58_.1.length := by rw [← g57_]; exact rv_okn0 g59_
  obtain ⟨S65_, g66_, h⟩ := rv_b_e h
  have o67_ : a0 < 64 + S65_.1.length := by rw [rv_pR_sh g66_]; exact o60_
  have o68_ : a2_ < 64 + S65_.1.length := by rw [rv_pR_sh g66_]; exact o61_
  have o69_ : a17_ < 64 + S65_.1.length := by rw [rv_pR_sh g66_]; exact o62_
  have o70_ : a35_ < 64 + S65_.1.length := by rw [rv_pR_sh g66_]; exact o63_
  have o71_ : a56_ < 64 + S65_.1.length := by rw [rv_pR_sh g66_]; exact o64_
  refine re_pR (pc := 42) g66_ lfX12_26 rfl (Or.inr ⟨rfl, rfl, rfl, (rw2 142 (by decide +kernel) rfl)⟩) (by decide +kernel : decode cX12_init 42 = .ok (.putfield 26, 3)) ?_
  refine re_aloadn (pc := 45) 0 (by decide +kernel : decode cX12_init 45 = .ok (.aload_n 0, 1)) rfl ?_
  refine re_new (pc := 46) (c := 4) rfl (rv_alv (List.forall_mem_cons.mpr ⟨o67_, (fun _ z => absurd z List.not_mem_nil)⟩)) ((List.forall_mem_cons.mpr ⟨o67_, (fun _ z => absurd z List.not_mem_nil)⟩)) (by decide) (rw2 30 (by decide +kernel) rfl) (rw2 31 (by decide +kernel) rfl) (rw1 9 (by decide +kernel) rfl) (by decide +kernel : decode cX12_init 46 = .ok (.new 30, 3)) ?_
  obtain ⟨a72_, g73_, h⟩ := rv_lt_e h
  refine re_nR g73_ ?_
  obtain ⟨S74_, g75_, h⟩ := rv_lt_e h
  refine re_nS g75_ ?_
  have o76_ : a0 < 64 + S74_.1.length := rv_okn g75_ o67_
  have o77_ : a2_ < 64 + S74_.1.length := rv_okn g75_ o68_
  have o78_ : a17_ < 64 + S74_.1.length := rv_okn g75_ o69_
  have o79_ : a35_ < 64 + S74_.1.length := rv_okn g75_ o70_
  have o80_ : a56_ < 64 + S74_.1.length := rv_okn g75_ o71_
  have o81_ : a72_ < 64 + S74_.1.length := by rw [← g73_]; exact rv_okn0 g75_
  refine re_dup (pc := 49) (by decide +kernel : decode cX12_init 49 = .ok (.dup, 1)) rfl ?_
  obtain ⟨S83_, g84_, h⟩ := rv_b_e h
  have m82_ := metX5_init n S74_ a72_ _ g84_
  have o85_ : a0 < 64 + S83_.1.length := Nat.lt_of_lt_of_le o76_ (Nat.add_le_add_left m82_.1.2.1 64)
  have o86_ : a2_ < 64 + S83_.1.length := Nat.lt_of_lt_of_le o77_ (Nat.add_le_add_left m82_.1.2.1 64)
  have o87_ : a17_ < 64 + S83_.1.length := Nat.lt_of_lt_of_le o78_ (Nat.add_le_add_left m82_.1.2.1 64)
  have o88_ : a35_ < 64 + S83_.1.length := Nat.lt_of_lt_of_le o79_ (Nat.add_le_add_left m82_.1.2.1 64)
  have o89_ : a56_ < 64 + S83_.1.length := Nat.lt_of_lt_of_le o80_ (Nat.add_le_add_left m82_.1.2.1 64)
  have o90_ : a72_ < 64 + S83_.1.length := Nat.lt_of_lt_of_le o81_ (Nat.add_le_add_left m82_.1.2.1 64)
  refine re_cI (pc := 50) (st := [.ref a72_, .ref a0]) [] m82_ (rv_okl.n (rv_alv (List.forall_mem_cons.mpr ⟨o76_, (fun _ z => absurd z List.not_mem_nil)⟩)) ((List.forall_mem_cons.mpr ⟨o81_, (List.forall_mem_cons.mpr ⟨o76_, (fun _ z => absurd z List.not_mem_nil)⟩)⟩))) ⟨fun z => absurd z (by decide), m82_.1.2⟩ (by decide) (Nat.le_of_ble_eq_true rfl) lIX12_32 rfl (by decide +kernel : decode cX12_init 50 = .ok (.invokespecial 32, 3)) ?_
  obtain ⟨S91_, g92_, h⟩ := rv_b_e h
  have o93_ : a0 < 64 + S91_.1.length := by rw [rv_pR_sh g92_]; exact o85_
  have o94_ : a2_ < 64 + S91_.1.length := by rw [rv_pR_sh g92_]; exact o86_
  have o95_ : a17_ < 64 + S91_.1.length := by rw [rv_pR_sh g92_]; exact o87_
  have o96_ : a35_ < 64 + S91_.1.length := by rw [rv_pR_sh g92_]; exact o88_
  have o97_ : a56_ < 64 + S91_.1.length := by rw [rv_pR_sh g92_]; exact o89_
  have o98_ : a72_ < 64 + S91_.1.length := by rw [rv_pR_sh g92_]; exact o90_
  refine re_pR (pc := 53) g92_ lfX12_33 rfl (Or.inr ⟨rfl, rfl, rfl, (rw2 144 (by decide +kernel) rfl)⟩) (by decide +kernel : decode cX12_init 53 = .ok (.putfield 33, 3)) ?_
  refine re_aloadn (pc := 56) 0 (by decide +kernel : decode cX12_init 56 = .ok (.aload_n 0, 1)) rfl ?_
  refine re_new (pc := 57) (c := 1) rfl (rv_alv (List.forall_mem_cons.mpr ⟨o93_, (fun _ z => absurd z List.not_mem_nil)⟩)) ((List.forall_mem_cons.mpr ⟨o93_, (fun _ z => absurd z List.not_mem_nil)⟩)) (by decide) (rw2 47 (by decide +kernel) rfl) (rw2 48 (by decide +kernel) rfl) (rw1 10 (by decide +kernel) rfl) (by decide +kernel : decode cX12_init 57 = .ok (.new 37, 3)) ?_
  obtain ⟨a99_, g100_, h⟩ := rv_lt_e h
  refine re_nR g100_ ?_
  obtain ⟨S101_, g102_, h⟩ := rv_lt_e h
  refine re_nS g102_ ?_
  have o103_ : a0 < 64 + S101_.1.length := rv_okn g102_ o93_
  have o104_ : a2_ < 64 + S101_.1.length := rv_okn g102_ o94_
  have o105_ : a17_ < 64 + S101_.1.length := rv_okn g102_ o95_
  have o106_ : a35_ < 64 + S101_.1.length := rv_okn g102_ o96_
  have o107_ : a56_ < 64 + S101_.1.length := rv_okn g102_ o97_
  have o108_ : a72_ < 64 + S101_.1.length := rv_okn g102_ o98_
  have o109_ : a99_ < 64 + S101_.1.length := by rw [← g100_]; exact rv_okn0 g102_
  refine re_dup (pc := 60) (by decide +kernel : decode cX12_init 60 = .ok (.dup, 1)) rfl ?_
  obtain ⟨S111_, g112_, h⟩ := rv_b_e h
  have m110_ := metX2_init n S101_ a99_ _ g112_
  have o113_ : a0 < 64 + S111_.1.length := Nat.lt_of_lt_of_le o103_ (Nat.add_le_add_left m110_.1.2.1 64)
  have o114_ : a2_ < 64 + S111_.1.length := Nat.lt_of_lt_of_le o104_ (Nat.add_le_add_left m110_.1.2.1 64)
  have o115_ : a17_ < 64 + S111_.1.length := Nat.lt_of_lt_of_le o105_ (Nat.add_le_add_left m110_.1.2.1 64)
  have o116_ : a35_ < 64 + S111_.1.length := Nat.lt_of_lt_of_le o106_ (Nat.add_le_add_left m110_.1.2.1 64)
  have o117_ : a56_ < 64 + S111_.1.length := Nat.lt_of_lt_of_le o107_ (Nat.add_le_add_left m110_.1.2.1 64)
  have o118_ : a72_ < 64 + S111_.1.length := Nat.lt_of_lt_of_le o108_ (Nat.add_le_add_left m110_.1.2.1 64)
  have o119_ : a99_ < 64 + S111_.1.length := Nat.lt_of_lt_of_le o109_ (Nat.add_le_add_left m110_.1.2.1 64)
  refine re_cI (pc := 61) (st := [.ref a99_, .ref a0]) [] m110_ (rv_okl.n (rv_alv (List.forall_mem_cons.mpr ⟨o103_, (fun _ z => absurd z List.not_mem_nil)⟩)) ((List.forall_mem_cons.mpr ⟨o109_, (List.forall_mem_cons.mpr ⟨o103_, (fun _ z => absurd z List.not_mem_nil)⟩)⟩))) ⟨fun z => absurd z (by decide), m110_.1.2⟩ (by decide) (Nat.le_of_ble_eq_true rfl) lIX12_39 rfl (by decide +kernel : decode cX12_init 61 = .ok (.invokespecial 39, 3)) ?_
  obtain ⟨S120_, g121_, h⟩ := rv_b_e h
  have o122_ : a0 < 64 + S120_.1.length := by rw [rv_pR_sh g121_]; exact o113_
  have o123_ : a2_ < 64 + S120_.1.length := by rw [rv_pR_sh g121_]; exact o114_
  have o124_ : a17_ < 64 + S120_.1.length := by rw [rv_pR_sh g121_]; exact o115_
  have o125_ : a35_ < 64 + S120_.1.length := by rw [rv_pR_sh g121_]; exact o116_
  have o126_ : a56_ < 64 + S120_.1.length := by rw [rv_pR_sh g121_]; exact o117_
  have o127_ : a72_ < 64 + S120_.1.length := by rw [rv_pR_sh g121_]; exact o118_
  have o128_ : a99_ < 64 + S120_.1.length := by rw [rv_pR_sh g121_]; exact o119_
  refine re_pR (pc := 64) g121_ lfX12_40 rfl (Or.inr ⟨rfl, rfl, rfl, (rw2 145 (by decide +kernel) rfl)⟩) (by decide +kernel : decode cX12_init 64 = .ok (.putfield 40, 3)) ?_
  refine re_aloadn (pc := 67) 0 (by decide +kernel : decode cX12_init 67 = .ok (.aload_n 0, 1)) rfl ?_
  refine re_new (pc := 68) (c := 3) rfl (rv_alv (List.forall_mem_cons.mpr ⟨o122_, (fun _ z => absurd z List.not_mem_nil)⟩)) ((List.forall_mem_cons.mpr ⟨o122_, (fun _ z => absurd z List.not_mem_nil)⟩)) (by decide) (rw2 82 (by decide +kernel) rfl) (rw2 83 (by decide +kernel) rfl) (rw1 11 (by decide +kernel) rfl) (by decide +kernel : decode cX12_init 68 = .ok (.new 44, 3)) ?_
  obtain ⟨a129_, g130_, h⟩ := rv_lt_e h
  refine re_nR g130_ ?_
  obtain ⟨S131_, g132_, h⟩ := rv_lt_e h
  refine re_nS g132_ ?_
  have o133_ : a0 < 64 + S131_.1.length := rv_okn g132_ o122_
  have o134_ : a2_ < 64 + S131_.1.length := rv_okn g132_ o123_
  have o135_ : a17_ < 64 + S131_.1.length := rv_okn g132_ o124_
  have o136_ : a35_ < 64 + S131_.1.length := rv_okn g132_ o125_
  have o137_ : a56_ < 64 + S131_.1.length := rv_okn g132_ o126_
  have o138_ : a72_ < 64 + S131_.1.length := rv_okn g132_ o127_
  have o139_ : a99_ < 64 + S131_.1.length := rv_okn g132_ o128_
  have o140_ : a129_ < 64 + S131_.1.length := by rw [← g130_]; exact rv_okn0 g132_
  refine re_dup (pc := 71) (by decide +kernel : decode cX12_init 71 = .ok (.dup, 1)) rfl ?_
  obtain ⟨S142_, g143_, h⟩ := rv_b_e h
  have m141_ := metX4_init n S131_ a129_ _ g143_
  have o144_ : a0 < 64 + S142_.1.length := Nat.lt_of_lt_of_le o133_ (Nat.add_le_add_left m141_.1.2.1 64)
  have o145_ : a2_ < 64 + S142_.1.length := Nat.lt_of_lt_of_le o134_ (Nat.add_le_add_left m141_.1.2.1 64)
  have o146_ : a17_ < 64 + S142_.1.length := Nat.lt_of_lt_of_le o135_ (Nat.add_le_add_left m141_.1.2.1 64)
  have o147_ : a35_ < 64 + S142_.1.length := Nat.lt_of_lt_of_le o136_ (Nat.add_le_add_left m141_.1.2.1 64)
  have o148_ : a56_ < 64 + S142_.1.length := Nat.lt_of_lt_of_le o137_ (Nat.add_le_add_left m141_.1.2.1 64)
  have o149_ : a72_ < 64 + S142_.1.length := Nat.lt_of_lt_of_le o138_ (Nat.add_le_add_left m141_.1.2.1 64)
  have o150_ : a99_ < 64 + S142_.1.length := Nat.lt_of_lt_of_le o139_ (Nat.add_le_add_left m141_.1.2.1 64)
  have o151_ : a129_ < 64 + S142_.1.length := Nat.lt_of_lt_of_le o140_ (Nat.add_le_add_left m141_.1.2.1 64)
  refine re_cI (pc := 72) (st := [.ref a129_, .ref a0]) [] m141_ (rv_okl.n (rv_alv (List.forall_mem_cons.mpr ⟨o133_, (fun _ z => absurd z List.not_mem_nil)⟩)) ((List.forall_mem_cons.mpr ⟨o140_, (List.forall_mem_cons.mpr ⟨o133_, (fun _ z => absurd z List.not_mem_nil)⟩)⟩))) ⟨fun z => absurd z (by decide), m141_.1.2⟩ (by decide) (Nat.le_of_ble_eq_true rfl) lIX12_46 rfl (by decide +kernel : decode cX12_init 72 = .ok (.invokespecial 46, 3)) ?_
  obtain ⟨S152_, g153_, h⟩ := rv_b_e h
  have o154_ : a0 < 64 + S152_.1.length := by rw [rv_pR_sh g153_]; exact o144_
  have o155_ : a2_ < 64 + S152_.1.length := by rw [rv_pR_sh g153_]; exact o145_
  have o156_ : a17_ < 64 + S152_.1.length := by rw [rv_pR_sh g153_]; exact o146_
  have o157_ : a35_ < 64 + S152_.1.length := by rw [rv_pR_sh g153_]; exact o147_
  have o158_ : a56_ < 64 + S152_.1.length := by rw [rv_pR_sh g153_]; exact o148_
  have o159_ : a72_ < 64 + S152_.1.length := by rw [rv_pR_sh g153_]; exact o149_
  have o160_ : a99_ < 64 + S152_.1.length := by rw [rv_pR_sh g153_]; exact o150_
  have o161_ : a129_ < 64 + S152_.1.length := by rw [rv_pR_sh g153_]; exact o151_
  refine re_pR (pc := 75) g153_ lfX12_47 rfl (Or.inr ⟨rfl, rfl, rfl, (rw2 146 (by decide +kernel) rfl)⟩) (by decide +kernel : decode cX12_init 75 = .ok (.putfield 47, 3)) ?_
  refine re_aloadn (pc := 78) 0 (by decide +kernel : decode cX12_init 78 = .ok (.aload_n 0, 1)) rfl ?_
  refine re_new (pc := 79) (c := 2) rfl (rv_alv (List.forall_mem_cons.mpr ⟨o154_, (fun _ z => absurd z List.not_mem_nil)⟩)) ((List.forall_mem_cons.mpr ⟨o154_, (fun _ z => absurd z List.not_mem_nil)⟩)) (by decide) (rw2 113 (by decide +kernel) rfl) (rw2 114 (by decide +kernel) rfl) (rw1 12 (by decide +kernel) rfl) (by decide +kernel : decode cX12_init 79 = .ok (.new 51, 3)) ?_
  obtain ⟨a162_, g163_, h⟩ := rv_lt_e h
  refine re_nR g163_ ?_
  obtain ⟨S164_, g165_, h⟩ := rv_lt_e h
  refine re_nS g165_ ?_
  have o166_ : a0 < 64 + S164_.1.length := rv_okn g165_ o154_
  have o167_ : a2_ < 64 + S164_.1.length := rv_okn g165_ o155_
  have o168_ : a17_ < 64 + S164_.1.length := rv_okn g165_ o156_
  have o169_ : a35_ < 64 + S164_.1.length := rv_okn g165_ o157_
  have o170_ : a56_ < 64 + S164_.1.length := rv_okn g165_ o158_
  have o171_ : a72_ < 64 + S164_.1.length := rv_okn g165_ o159_
  have o172_ : a99_ < 64 + S164_.1.length := rv_okn g165_ o160_
  have o173_ : a129_ < 64 + S164_.1.length := rv_okn g165_ o161_
  have o174_ : a162_ < 64 + S164_.1.length := by rw [← g163_]; exact rv_okn0 g165_
  refine re_dup (pc := 82) (by decide +kernel : decode cX12_init 82 = .ok (.dup, 1)) rfl ?_
  obtain ⟨u176_, g177_, h⟩ := rv_b_e h
  have m175_ := metX3_init n S164_ a162_ g177_
  refine re_cI (pc := 83) [] m175_ (rv_okl.k ⟨rfl, rfl⟩) (rv_up.rf _ _) (by decide) (Nat.le_of_ble_eq_true rfl) lIX12_53 rfl (by decide +kernel : decode cX12_init 83 = .ok (.invokespecial 53, 3)) ?_
  obtain ⟨S178_, g179_, h⟩ := rv_b_e h
  have o180_ : a0 < 64 + S178_.1.length := by rw [rv_pR_sh g179_]; exact o166_
  have o181_ : a2_ < 64 + S178_.1.length := by rw [rv_pR_sh g179_]; exact o167_
  have o182_ : a17_ < 64 + S178_.1.length := by rw [rv_pR_sh g179_]; exact o168_
  have o183_ : a35_ < 64 + S178_.1.length := by rw [rv_pR_sh g179_]; exact o169_
  have o184_ : a56_ < 64 + S178_.1.length := by rw [rv_pR_sh g179_]; exact o170_
  have o185_ : a72_ < 64 + S178_.1.length := by rw [rv_pR_sh g179_]; exact o171_
  have o186_ : a99_ < 64 + S178_.1.length := by rw [rv_pR_sh g179_]; exact o172_
  have o187_ : a129_ < 64 + S178_.1.length := by rw [rv_pR_sh g179_]; exact o173_
  have o188_ : a162_ < 64 + S178_.1.length := by rw [rv_pR_sh g179_]; exact o174_
  refine re_pR (pc := 86) g179_ lfX12_54 rfl (Or.inr ⟨rfl, rfl, rfl, (rw2 147 (by decide +kernel) rfl)⟩) (by decide +kernel : decode cX12_init 86 = .ok (.putfield 54, 3)) ?_
  refine re_aloadn (pc := 89) 0 (by decide +kernel : decode cX12_init 89 = .ok (.aload_n 0, 1)) rfl ?_
  refine re_new (pc := 90) (c := 2) rfl (rv_alv (List.forall_mem_cons.mpr ⟨o180_, (fun _ z => absurd z List.not_mem_nil)⟩)) ((List.forall_mem_cons.mpr ⟨o180_, (fun _ z => absurd z List.not_mem_nil)⟩)) (by decide) (rw2 113 (by decide +kernel) rfl) (rw2 114 (by decide +kernel) rfl) (rw1 12 (by decide +kernel) rfl) (by decide +kernel : decode cX12_init 90 = .ok (.new 51, 3)) ?_
  obtain ⟨a189_, g190_, h⟩ := rv_lt_e h
  refine re_nR g190_ ?_
  obtain ⟨S191_, g192_, h⟩ := rv_lt_e h
  refine re_nS g192_ ?_
  have o193_ : a0 < 64 + S191_.1.length := rv_okn g192_ o180_
  have o194_ : a2_ < 64 + S191_.1.length := rv_okn g192_ o181_
  have o195_ : a17_ < 64 + S191_.1.length := rv_okn g192_ o182_
  have o196_ : a35_ < 64 + S191_.1.length := rv_okn g192_ o183_
  have o197_ : a56_ < 64 + S191_.1.length := rv_okn g192_ o184_
  have o198_ : a72_ < 64 + S191_.1.length := rv_okn g192_ o185_
  have o199_ : a99_ < 64 + S191_.1.length := rv_okn g192_ o186_
  have o200_ : a129_ < 64 + S191_.1.length := rv_okn g192_ o187_
  have o201_ : a162_ < 64 + S191_.1.length := rv_okn g192_ o188_
  have o202_ : a189_ < 64 + S191_.1.length := by rw [← g190_]; exact rv_okn0 g192_
  refine re_dup (pc := 93) (by decide +kernel : decode cX12_init 93 = .ok (.dup, 1)) rfl ?_
  obtain ⟨u204_, g205_, h⟩ := rv_b_e h
  have m203_ := metX3_init n S191_ a189_ g205_
  refine re_cI (pc := 94) [] m203_ (rv_okl.k ⟨rfl, rfl⟩) (rv_up.rf _ _) (by decide) (Nat.le_of_ble_eq_true rfl) lIX12_53 rfl (by decide +kernel : decode cX12_init 94 = .ok (.invokespecial 53, 3)) ?_
  obtain ⟨S206_, g207_, h⟩ := rv_b_e h
  have o208_ : a0 < 64 + S206_.1.length := by rw [rv_pR_sh g207_]; exact o193_
  have o209_ : a2_ < 64 + S206_.1.length := by rw [rv_pR_sh g207_]; exact o194_
  have o210_ : a17_ < 64 + S206_.1.length := by rw [rv_pR_sh g207_]; exact o195_
  have o211_ : a35_ < 64 + S206_.1.length := by rw [rv_pR_sh g207_]; exact o196_
  have o212_ : a56_ < 64 + S206_.1.length := by rw [rv_pR_sh g207_]; exact o197_
  have o213_ : a72_ < 64 + S206_.1.length := by rw [rv_pR_sh g207_]; exact o198_
  have o214_ : a99_ < 64 + S206_.1.length := by rw [rv_pR_sh g207_]; exact o199_
  have o215_ : a129_ < 64 + S206_.1.length := by rw [rv_pR_sh g207_]; exact o200_
  have o216_ : a162_ < 64 + S206_.1.length := by rw [rv_pR_sh g207_]; exact o201_
  have o217_ : a189_ < 64 + S206_.1.length := by rw [rv_pR_sh g207_]; exact o202_
  refine re_pR (pc := 97) g207_ lfX12_58 rfl (Or.inr ⟨rfl, rfl, rfl, (rw2 148 (by decide +kernel) rfl)⟩) (by decide +kernel : decode cX12_init 97 = .ok (.putfield 58, 3)) ?_
  refine re_iconst (pc := 100) (0 : Int32) (by decide +kernel : decode cX12_init 100 = .ok (.iconst 0, 1)) (by decide) ?_
  refine re_istoren (pc := 101) (lv1 := [(1, .int (0 : Int32)), (0, .ref a0)]) (by decide +kernel : decode cX12_init 101 = .ok (.istore_n 1, 1)) rfl (by decide) rfl ?_
  refine re_sub [1, 0] (lv1 := [(0, .ref a0), (1, .int (0 : Int32))]) rfl ?_
  exact eX12_init_102 n n S206_ a0 (0 : Int32) _ h
theorem metX12_init (n : Nat) (S : rvS) (a0 : Nat) (S' : rvS) (h : fnX12_init n S a0 = some S') : rv_Met yX12_init mX12_init 3 [.ref a0] S none S' := rv_Met.of ⟨by decide +kernel, rfl, (fun z => by first | rfl | cases z), rfl⟩ (Nat.le_of_ble_eq_true rfl) rfl (eX12_init_in n S a0 S' h)
noncomputable def fnX12_feed (n : Nat) (S : rvS) (a0 : Nat) (x1 : Int32) (x2 : Int32) (x3 : Int32) (x4 : Int32) (x5 : Int32) : Option (Int32 × rvS) :=
  (rv_gR S 10 a0 0).bind fun a1_ =>
  (rv_ck S 7 a1_).bind fun u3_ =>
  (fnX8_hasRoom n S a1_).bind fun x6_ =>
  if x6_ = 0 then (
    some ((-1 : Int32), S))
  else (
    (rv_gR S 10 a0 0).bind fun a9_ =>
    (rv_ck S 7 a9_).bind fun u11_ =>
    (fnX8_add n S a9_ x1).bind fun S14_ =>
    (rv_gR S14_ 10 a0 0).bind fun a17_ =>
    (rv_ck S14_ 7 a17_).bind fun u19_ =>
    (fnX8_add n S14_ a17_ x2).bind fun S22_ =>
    (rv_gR S22_ 10 a0 0).bind fun a25_ =>
    (rv_ck S22_ 7 a25_).bind fun u27_ =>
    (fnX8_add n S22_ a25_ x3).bind fun S30_ =>
    (rv_gR S30_ 10 a0 0).bind fun a33_ =>
    (rv_ck S30_ 7 a33_).bind fun u35_ =>
    (fnX8_add n S30_ a33_ x4).bind fun S38_ =>
    (rv_gR S38_ 10 a0 0).bind fun a41_ =>
    (rv_ck S38_ 7 a41_).bind fun u43_ =>
    (fnX8_add n S38_ a41_ x5).bind fun S46_ =>
    (rv_gR S46_ 10 a0 0).bind fun a49_ =>
    (rv_gI S46_ 7 a49_ 1).bind fun x51_ =>
    some (x51_, S46_))
set_option maxRecDepth 20000 in
set_option maxHeartbeats 4000000 in
theorem eX12_feed_in (n : Nat) (S : rvS) (a0 : Nat) (x1 : Int32) (x2 : Int32) (x3 : Int32) (x4 : Int32) (x5 : Int32) (r : Int32) (S' : rvS) (h : fnX12_feed n S a0 x1 x2 x3 x4 x5 = some (r, S')) : rv_Ev mX12_feed 1 0 [(0, .ref a0), (1, .int x1), (2, .int x2), (3, .int x3), (4, .int x4), (5, .int x5)] [] S (some (.int r)) S' := by
  unfold fnX12_feed at h
  refine re_aloadn (pc := 0) 0 (by decide +kernel : decode cX12_feed 0 = .ok (.aload_n 0, 1)) rfl ?_
  obtain ⟨a1_, g2_, h⟩ := rv_b_e h
  refine re_gR (pc := 1) g2_ lfX12_10 rfl (by decide +kernel : decode cX12_feed 1 = .ok (.getfield 10, 3)) ?_
  obtain ⟨u3_, g4_, h⟩ := rv_b_e h
  obtain ⟨x6_, g7_, h⟩ := rv_b_e h
  have m5_ := metX8_hasRoom n S a1_ _ g7_
  refine re_cV (pc := 4) [] m5_ (rv_okl.k ⟨rfl, rfl⟩) (rv_up.rf _ _) (by decide) (rv_ck_e g4_) ⟨by decide, rfl⟩ (Nat.le_of_ble_eq_true rfl) lVX12_61 rfl (by decide +kernel : decode cX12_feed 4 = .ok (.invokevirtual 61, 3)) ?_
  rcases rv_if_e h with ⟨g8_, h⟩ | ⟨g8_, h⟩
  · refine re_if_ne_f (pc := 7) 12 (by decide +kernel : decode cX12_feed 7 = .ok (.ifCond .ne 5, 3)) (by decide) g8_ ?_
    refine re_iconst (pc := 10) (-1 : Int32) (by decide +kernel : decode cX12_feed 10 = .ok (.iconst (-1), 1)) (by decide) ?_
    cases h
    exact re_iret (fun ty hty => by cases hty; rfl) (by decide +kernel : decode cX12_feed 11 = .ok (.ireturn, 1))
  · refine re_if_ne_t (pc := 7) 12 (by decide +kernel : decode cX12_feed 7 = .ok (.ifCond .ne 5, 3)) (by decide) g8_ ?_
    refine re_aloadn (pc := 12) 0 (by decide +kernel : decode cX12_feed 12 = .ok (.aload_n 0, 1)) rfl ?_
    obtain ⟨a9_, g10_, h⟩ := rv_b_e h
    refine re_gR (pc := 13) g10_ lfX12_10 rfl (by decide +kernel : decode cX12_feed 13 = .ok (.getfield 10, 3)) ?_
    refine re_iloadn (pc := 16) 1 (by decide +kernel : decode cX12_feed 16 = .ok (.iload_n 1, 1)) rfl ?_
    obtain ⟨u11_, g12_, h⟩ := rv_b_e h
    obtain ⟨S14_, g15_, h⟩ := rv_b_e h
    have m13_ := metX8_add n S a9_ x1 _ g15_
    have z16_ : rv_same S S14_ := m13_.sh rfl
    refine re_cV (pc := 17) [.int x1] m13_ (rv_okl.k z16_) (rv_up.sh z16_) (by decide) (rv_ck_e g12_) ⟨by decide, rfl⟩ (Nat.le_of_ble_eq_true rfl) lVX12_65 rfl (by decide +kernel : decode cX12_feed 17 = .ok (.invokevirtual 65, 3)) ?_
    refine re_aloadn (pc := 20) 0 (by decide +kernel : decode cX12_feed 20 = .ok (.aload_n 0, 1)) rfl ?_
    obtain ⟨a17_, g18_, h⟩ := rv_b_e h
    refine re_gR (pc := 21) g18_ lfX12_10 rfl (by decide +kernel : decode cX12_feed 21 = .ok (.getfield 10, 3)) ?_
    refine re_iloadn (pc := 24) 2 (by decide +kernel : decode cX12_feed 24 = .ok (.iload_n 2, 1)) rfl ?_
    obtain ⟨u19_, g20_, h⟩ := rv_b_e h
    obtain ⟨S22_, g23_, h⟩ := rv_b_e h
    have m21_ := metX8_add n S14_ a17_ x2 _ g23_
    have z24_ : rv_same S14_ S22_ := m21_.sh rfl
    refine re_cV (pc := 25) [.int x2] m21_ (rv_okl.k z24_) (rv_up.sh z24_) (by decide) (rv_ck_e g20_) ⟨by decide, rfl⟩ (Nat.le_of_ble_eq_true rfl) lVX12_65 rfl (by decide +kernel : decode cX12_feed 25 = .ok (.invokevirtual 65, 3)) ?_
    refine re_aloadn (pc := 28) 0 (by decide +kernel : decode cX12_feed 28 = .ok (.aload_n 0, 1)) rfl ?_
    obtain ⟨a25_, g26_, h⟩ := rv_b_e h
    refine re_gR (pc := 29) g26_ lfX12_10 rfl (by decide +kernel : decode cX12_feed 29 = .ok (.getfield 10, 3)) ?_
    refine re_iloadn (pc := 32) 3 (by decide +kernel : decode cX12_feed 32 = .ok (.iload_n 3, 1)) rfl ?_
    obtain ⟨u27_, g28_, h⟩ := rv_b_e h
    obtain ⟨S30_, g31_, h⟩ := rv_b_e h
    have m29_ := metX8_add n S22_ a25_ x3 _ g31_
    have z32_ : rv_same S22_ S30_ := m29_.sh rfl
    refine re_cV (pc := 33) [.int x3] m29_ (rv_okl.k z32_) (rv_up.sh z32_) (by decide) (rv_ck_e g28_) ⟨by decide, rfl⟩ (Nat.le_of_ble_eq_true rfl) lVX12_65 rfl (by decide +kernel : decode cX12_feed 33 = .ok (.invokevirtual 65, 3)) ?_
    refine re_aloadn (pc := 36) 0 (by decide +kernel : decode cX12_feed 36 = .ok (.aload_n 0, 1)) rfl ?_
    obtain ⟨a33_, g34_, h⟩ := rv_b_e h
    refine re_gR (pc := 37) g34_ lfX12_10 rfl (by decide +kernel : decode cX12_feed 37 = .ok (.getfield 10, 3)) ?_
    refine re_iload (pc := 40) 4 (by decide +kernel : decode cX12_feed 40 = .ok (.iload 4, 2)) rfl ?_
    obtain ⟨u35_, g36_, h⟩ := rv_b_e h
    obtain ⟨S38_, g39_, h⟩ := rv_b_e h
    have m37_ := metX8_add n S30_ a33_ x4 _ g39_
    have z40_ : rv_same S30_ S38_ := m37_.sh rfl
    refine re_cV (pc := 42) [.int x4] m37_ (rv_okl.k z40_) (rv_up.sh z40_) (by decide) (rv_ck_e g36_) ⟨by decide, rfl⟩ (Nat.le_of_ble_eq_true rfl) lVX12_65 rfl (by decide +kernel : decode cX12_feed 42 = .ok (.invokevirtual 65, 3)) ?_
    refine re_aloadn (pc := 45) 0 (by decide +kernel : decode cX12_feed 45 = .ok (.aload_n 0, 1)) rfl ?_
    obtain ⟨a41_, g42_, h⟩ := rv_b_e h
    refine re_gR (pc := 46) g42_ lfX12_10 rfl (by decide +kernel : decode cX12_feed 46 = .ok (.getfield 10, 3)) ?_
    refine re_iload (pc := 49) 5 (by decide +kernel : decode cX12_feed 49 = .ok (.iload 5, 2)) rfl ?_
    obtain ⟨u43_, g44_, h⟩ := rv_b_e h
    obtain ⟨S46_, g47_, h⟩ := rv_b_e h
    have m45_ := metX8_add n S38_ a41_ x5 _ g47_
    have z48_ : rv_same S38_ S46_ := m45_.sh rfl
    refine re_cV (pc := 51) [.int x5] m45_ (rv_okl.k z48_) (rv_up.sh z48_) (by decide) (rv_ck_e g44_) ⟨by decide, rfl⟩ (Nat.le_of_ble_eq_true rfl) lVX12_65 rfl (by decide +kernel : decode cX12_feed 51 = .ok (.invokevirtual 65, 3)) ?_
    refine re_aloadn (pc := 54) 0 (by decide +kernel : decode cX12_feed 54 = .ok (.aload_n 0, 1)) rfl ?_
    obtain ⟨a49_, g50_, h⟩ := rv_b_e h
    refine re_gR (pc := 55) g50_ lfX12_10 rfl (by decide +kernel : decode cX12_feed 55 = .ok (.getfield 10, 3)) ?_
    obtain ⟨x51_, g52_, h⟩ := rv_b_e h
    refine re_gI (pc := 58) g52_ lfX12_69 rfl (by decide +kernel : decode cX12_feed 58 = .ok (.getfield 69, 3)) ?_
    cases h
    exact re_iret (fun ty hty => by cases hty; rfl) (by decide +kernel : decode cX12_feed 61 = .ok (.ireturn, 1))
theorem metX12_feed (n : Nat) (S : rvS) (a0 : Nat) (x1 : Int32) (x2 : Int32) (x3 : Int32) (x4 : Int32) (x5 : Int32) (r : Int32) (S' : rvS) (h : fnX12_feed n S a0 x1 x2 x3 x4 x5 = some (r, S')) : rv_Met yX12_feed mX12_feed 1 [.ref a0, .int x1, .int x2, .int x3, .int x4, .int x5] S (some (.int r)) S' := rv_Met.of ⟨by decide +kernel, rfl, (fun z => by first | rfl | cases z), rfl⟩ (Nat.le_of_ble_eq_true rfl) rfl (eX12_feed_in n S a0 x1 x2 x3 x4 x5 r S' h)
noncomputable def fnX12_end (n : Nat) (S : rvS) (a0 : Nat) (x1 : Int32) : Option (Int32 × rvS) :=
  if x1 < 0 then (
    some ((0 : Int32), S))
  else (
    (rv_gR S 10 a0 0).bind fun a2_ =>
    (rv_gI S 7 a2_ 1).bind fun x4_ =>
    if x1 ≤ x4_ then (
      (rv_gR S 10 a0 0).bind fun a7_ =>
      (rv_pI S 7 a7_ 1 x1).bind fun S9_ =>
      some ((1 : Int32), S9_))
    else (
      some ((0 : Int32), S)))
set_option maxRecDepth 20000 in
set_option maxHeartbeats 4000000 in
theorem eX12_end_in (n : Nat) (S : rvS) (a0 : Nat) (x1 : Int32) (r : Int32) (S' : rvS) (h : fnX12_end n S a0 x1 = some (r, S')) : rv_Ev mX12_end 0 0 [(0, .ref a0), (1, .int x1)] [] S (some (.int r)) S' := by
  unfold fnX12_end at h
  refine re_iloadn (pc := 0) 1 (by decide +kernel : decode cX12_end 0 = .ok (.iload_n 1, 1)) rfl ?_
  rcases rv_if_e h with ⟨g1_, h⟩ | ⟨g1_, h⟩
  · refine re_if_lt_t (pc := 1) 15 (by decide +kernel : decode cX12_end 1 = .ok (.ifCond .lt 14, 3)) (by decide) g1_ ?_
    refine re_iconst (pc := 15) (0 : Int32) (by decide +kernel : decode cX12_end 15 = .ok (.iconst 0, 1)) (by decide) ?_
    cases h
    exact re_iret (fun ty hty => by cases hty; rfl) (by decide +kernel : decode cX12_end 16 = .ok (.ireturn, 1))
  · refine re_if_lt_f (pc := 1) 15 (by decide +kernel : decode cX12_end 1 = .ok (.ifCond .lt 14, 3)) (by decide) g1_ ?_
    refine re_iloadn (pc := 4) 1 (by decide +kernel : decode cX12_end 4 = .ok (.iload_n 1, 1)) rfl ?_
    refine re_aloadn (pc := 5) 0 (by decide +kernel : decode cX12_end 5 = .ok (.aload_n 0, 1)) rfl ?_
    obtain ⟨a2_, g3_, h⟩ := rv_b_e h
    refine re_gR (pc := 6) g3_ lfX12_10 rfl (by decide +kernel : decode cX12_end 6 = .ok (.getfield 10, 3)) ?_
    obtain ⟨x4_, g5_, h⟩ := rv_b_e h
    refine re_gI (pc := 9) g5_ lfX12_69 rfl (by decide +kernel : decode cX12_end 9 = .ok (.getfield 69, 3)) ?_
    rcases rv_if_e h with ⟨g6_, h⟩ | ⟨g6_, h⟩
    · refine re_icmp_le_t (pc := 12) 17 (by decide +kernel : decode cX12_end 12 = .ok (.if_icmp .le 5, 3)) (by decide) g6_ ?_
      refine re_aloadn (pc := 17) 0 (by decide +kernel : decode cX12_end 17 = .ok (.aload_n 0, 1)) rfl ?_
      obtain ⟨a7_, g8_, h⟩ := rv_b_e h
      refine re_gR (pc := 18) g8_ lfX12_10 rfl (by decide +kernel : decode cX12_end 18 = .ok (.getfield 10, 3)) ?_
      refine re_iloadn (pc := 21) 1 (by decide +kernel : decode cX12_end 21 = .ok (.iload_n 1, 1)) rfl ?_
      obtain ⟨S9_, g10_, h⟩ := rv_b_e h
      refine re_pI (pc := 22) g10_ lfX12_69 rfl rfl rfl rfl (by decide +kernel : decode cX12_end 22 = .ok (.putfield 69, 3)) ?_
      refine re_iconst (pc := 25) (1 : Int32) (by decide +kernel : decode cX12_end 25 = .ok (.iconst 1, 1)) (by decide) ?_
      cases h
      exact re_iret (fun ty hty => by cases hty; rfl) (by decide +kernel : decode cX12_end 26 = .ok (.ireturn, 1))
    · refine re_icmp_le_f (pc := 12) 17 (by decide +kernel : decode cX12_end 12 = .ok (.if_icmp .le 5, 3)) (by decide) g6_ ?_
      refine re_iconst (pc := 15) (0 : Int32) (by decide +kernel : decode cX12_end 15 = .ok (.iconst 0, 1)) (by decide) ?_
      cases h
      exact re_iret (fun ty hty => by cases hty; rfl) (by decide +kernel : decode cX12_end 16 = .ok (.ireturn, 1))
theorem metX12_end (n : Nat) (S : rvS) (a0 : Nat) (x1 : Int32) (r : Int32) (S' : rvS) (h : fnX12_end n S a0 x1 = some (r, S')) : rv_Met yX12_end mX12_end 0 [.ref a0, .int x1] S (some (.int r)) S' := rv_Met.of ⟨by decide +kernel, rfl, (fun z => by first | rfl | cases z), rfl⟩ (Nat.le_of_ble_eq_true rfl) rfl (eX12_end_in n S a0 x1 r S' h)
noncomputable def cX12_closeTape_16 (n : Nat) (S : rvS) (a0 : Nat) (x1 : Int32) (x2 : Int32) (t0 : Nat) (t1 : Int32) : Option (Int32 × rvS) :=
  (rv_pI S 10 t0 11 t1).bind fun S1_ =>
  (rv_gR S1_ 10 a0 0).bind fun a3_ =>
  (rv_pI S1_ 7 a3_ 1 (0 : Int32)).bind fun S5_ =>
  if x1 = 0 then (
    (rv_gR S5_ 10 a0 0).bind fun a8_ =>
    (rv_gI S5_ 7 a8_ 10).bind fun x10_ =>
    some ((-1 : Int32) - x10_, S5_))
  else (
    some (x2, S5_))
set_option maxRecDepth 20000 in
set_option maxHeartbeats 4000000 in
theorem eX12_closeTape_16 (n : Nat) (S : rvS) (a0 : Nat) (x1 : Int32) (x2 : Int32) (t0 : Nat) (t1 : Int32) (r : Int32) (S' : rvS) (h : cX12_closeTape_16 n S a0 x1 x2 t0 t1 = some (r, S')) : rv_Ev mX12_closeTape 0 16 [(0, .ref a0), (1, .int x1), (2, .int x2)] [.int t1, .ref t0] S (some (.int r)) S' := by
  unfold cX12_closeTape_16 at h
  obtain ⟨S1_, g2_, h⟩ := rv_b_e h
  refine re_pI (pc := 16) g2_ lfX12_98 rfl rfl rfl rfl (by decide +kernel : decode cX12_closeTape 16 = .ok (.putfield 98, 3)) ?_
  refine re_aloadn (pc := 19) 0 (by decide +kernel : decode cX12_closeTape 19 = .ok (.aload_n 0, 1)) rfl ?_
  obtain ⟨a3_, g4_, h⟩ := rv_b_e h
  refine re_gR (pc := 20) g4_ lfX12_10 rfl (by decide +kernel : decode cX12_closeTape 20 = .ok (.getfield 10, 3)) ?_
  refine re_iconst (pc := 23) (0 : Int32) (by decide +kernel : decode cX12_closeTape 23 = .ok (.iconst 0, 1)) (by decide) ?_
  obtain ⟨S5_, g6_, h⟩ := rv_b_e h
  refine re_pI (pc := 24) g6_ lfX12_69 rfl rfl rfl rfl (by decide +kernel : decode cX12_closeTape 24 = .ok (.putfield 69, 3)) ?_
  refine re_iloadn (pc := 27) 1 (by decide +kernel : decode cX12_closeTape 27 = .ok (.iload_n 1, 1)) rfl ?_
  rcases rv_if_e h with ⟨g7_, h⟩ | ⟨g7_, h⟩
  · refine re_if_eq_t (pc := 28) 35 (by decide +kernel : decode cX12_closeTape 28 = .ok (.ifCond .eq 7, 3)) (by decide) g7_ ?_
    refine re_iconst (pc := 35) (-1 : Int32) (by decide +kernel : decode cX12_closeTape 35 = .ok (.iconst (-1), 1)) (by decide) ?_
    refine re_aloadn (pc := 36) 0 (by decide +kernel : decode cX12_closeTape 36 = .ok (.aload_n 0, 1)) rfl ?_
    obtain ⟨a8_, g9_, h⟩ := rv_b_e h
    refine re_gR (pc := 37) g9_ lfX12_10 rfl (by decide +kernel : decode cX12_closeTape 37 = .ok (.getfield 10, 3)) ?_
    obtain ⟨x10_, g11_, h⟩ := rv_b_e h
    refine re_gI (pc := 40) g11_ lfX12_101 rfl (by decide +kernel : decode cX12_closeTape 40 = .ok (.getfield 101, 3)) ?_
    refine re_isub (pc := 43) (by decide +kernel : decode cX12_closeTape 43 = .ok (.isub, 1)) ?_
    obtain ⟨h1_, h2_⟩ := Prod.mk.inj (Option.some.inj h); subst h1_; subst h2_
    exact re_iret (fun ty hty => by cases hty; rfl) (by decide +kernel : decode cX12_closeTape 44 = .ok (.ireturn, 1))
  · refine re_if_eq_f (pc := 28) 35 (by decide +kernel : decode cX12_closeTape 28 = .ok (.ifCond .eq 7, 3)) (by decide) g7_ ?_
    refine re_iloadn (pc := 31) 2 (by decide +kernel : decode cX12_closeTape 31 = .ok (.iload_n 2, 1)) rfl ?_
    refine re_goto (pc := 32) 44 (by decide +kernel : decode cX12_closeTape 32 = .ok (.goto 12, 3)) (by decide) ?_
    cases h
    exact re_iret (fun ty hty => by cases hty; rfl) (by decide +kernel : decode cX12_closeTape 44 = .ok (.ireturn, 1))
noncomputable def fnX12_closeTape (n : Nat) (S : rvS) (a0 : Nat) (x1 : Int32) (x2 : Int32) : Option (Int32 × rvS) :=
  if x1 = 0 then (
    (rv_gR S 10 a0 0).bind fun a2_ =>
    (rv_gI S 7 a2_ 9).bind fun x4_ =>
    cX12_closeTape_16 n S a0 x1 x2 a0 x4_)
  else (
    cX12_closeTape_16 n S a0 x1 x2 a0 (0 : Int32))
set_option maxRecDepth 20000 in
set_option maxHeartbeats 4000000 in
theorem eX12_closeTape_in (n : Nat) (S : rvS) (a0 : Nat) (x1 : Int32) (x2 : Int32) (r : Int32) (S' : rvS) (h : fnX12_closeTape n S a0 x1 x2 = some (r, S')) : rv_Ev mX12_closeTape 0 0 [(0, .ref a0), (1, .int x1), (2, .int x2)] [] S (some (.int r)) S' := by
  unfold fnX12_closeTape at h
  refine re_aloadn (pc := 0) 0 (by decide +kernel : decode cX12_closeTape 0 = .ok (.aload_n 0, 1)) rfl ?_
  refine re_iloadn (pc := 1) 1 (by decide +kernel : decode cX12_closeTape 1 = .ok (.iload_n 1, 1)) rfl ?_
  rcases rv_if_e h with ⟨g1_, h⟩ | ⟨g1_, h⟩
  · refine re_if_eq_t (pc := 2) 9 (by decide +kernel : decode cX12_closeTape 2 = .ok (.ifCond .eq 7, 3)) (by decide) g1_ ?_
    refine re_aloadn (pc := 9) 0 (by decide +kernel : decode cX12_closeTape 9 = .ok (.aload_n 0, 1)) rfl ?_
    obtain ⟨a2_, g3_, h⟩ := rv_b_e h
    refine re_gR (pc := 10) g3_ lfX12_10 rfl (by decide +kernel : decode cX12_closeTape 10 = .ok (.getfield 10, 3)) ?_
    obtain ⟨x4_, g5_, h⟩ := rv_b_e h
    refine re_gI (pc := 13) g5_ lfX12_95 rfl (by decide +kernel : decode cX12_closeTape 13 = .ok (.getfield 95, 3)) ?_
    exact eX12_closeTape_16 n S a0 x1 x2 a0 x4_ _ _ h
  · refine re_if_eq_f (pc := 2) 9 (by decide +kernel : decode cX12_closeTape 2 = .ok (.ifCond .eq 7, 3)) (by decide) g1_ ?_
    refine re_iconst (pc := 5) (0 : Int32) (by decide +kernel : decode cX12_closeTape 5 = .ok (.iconst 0, 1)) (by decide) ?_
    refine re_goto (pc := 6) 16 (by decide +kernel : decode cX12_closeTape 6 = .ok (.goto 10, 3)) (by decide) ?_
    exact eX12_closeTape_16 n S a0 x1 x2 a0 (0 : Int32) _ _ h
theorem metX12_closeTape (n : Nat) (S : rvS) (a0 : Nat) (x1 : Int32) (x2 : Int32) (r : Int32) (S' : rvS) (h : fnX12_closeTape n S a0 x1 x2 = some (r, S')) : rv_Met yX12_closeTape mX12_closeTape 0 [.ref a0, .int x1, .int x2] S (some (.int r)) S' := rv_Met.of ⟨by decide +kernel, rfl, (fun z => by first | rfl | cases z), rfl⟩ (Nat.le_of_ble_eq_true rfl) rfl (eX12_closeTape_in n S a0 x1 x2 r S' h)
noncomputable def cX12_valley_46 (n : Nat) (S : rvS) (a0 : Nat) (a1 : Nat) (x2 : Int32) : Option (Int32 × rvS) :=
  (rv_vl S a0).bind fun _ =>
  (rv_vl S a1).bind fun _ =>
  (rv_gI S 9 a1 2).bind fun x3_ =>
  (rv_ck S 10 a0).bind fun u5_ =>
  rv_bp (fnX12_closeTape n S a0 x2 x3_) fun x8_ S9_ =>
  some (x8_, S9_)
set_option maxRecDepth 20000 in
set_option maxHeartbeats 4000000 in
theorem eX12_valley_46 (n : Nat) (S : rvS) (a0 : Nat) (a1 : Nat) (x2 : Int32) (r : Int32) (S' : rvS) (h : cX12_valley_46 n S a0 a1 x2 = some (r, S')) : rv_Ev mX12_valley 7 46 [(0, .ref a0), (1, .ref a1), (2, .int x2)] [] S (some (.int r)) S' := by
  unfold cX12_valley_46 at h
  obtain ⟨_, g1_, h⟩ := rv_b_e h
  obtain ⟨_, g2_, h⟩ := rv_b_e h
  refine re_aloadn (pc := 46) 0 (by decide +kernel : decode cX12_valley 46 = .ok (.aload_n 0, 1)) rfl ?_
  refine re_iloadn (pc := 47) 2 (by decide +kernel : decode cX12_valley 47 = .ok (.iload_n 2, 1)) rfl ?_
  refine re_aloadn (pc := 48) 1 (by decide +kernel : decode cX12_valley 48 = .ok (.aload_n 1, 1)) rfl ?_
  obtain ⟨x3_, g4_, h⟩ := rv_b_e h
  refine re_gI (pc := 49) g4_ lfX12_88 rfl (by decide +kernel : decode cX12_valley 49 = .ok (.getfield 88, 3)) ?_
  obtain ⟨u5_, g6_, h⟩ := rv_b_e h
  obtain ⟨x8_, S9_, g10_, h⟩ := rv_bp_e h
  have m7_ := metX12_closeTape n S a0 x2 x3_ _ _ g10_
  have z11_ : rv_same S S9_ := m7_.sh rfl
  have o12_ : a0 < 64 + S9_.1.length := by rw [z11_.1]; exact (rv_vl_e g1_)
  have o13_ : a1 < 64 + S9_.1.length := by rw [z11_.1]; exact (rv_vl_e g2_)
  refine re_cV (pc := 52) [.int x2, .int x3_] m7_ (rv_okl.k z11_) (rv_up.sh z11_) (by decide) (rv_ck_e g6_) ⟨by decide, rfl⟩ (Nat.le_of_ble_eq_true rfl) lVX12_91 rfl (by decide +kernel : decode cX12_valley 52 = .ok (.invokevirtual 91, 3)) ?_
  cases h
  exact re_iret (fun ty hty => by cases hty; rfl) (by decide +kernel : decode cX12_valley 55 = .ok (.ireturn, 1))
noncomputable def fnX12_valley (n : Nat) (S : rvS) (a0 : Nat) : Option (Int32 × rvS) :=
  (rv_vl S a0).bind fun _ =>
  (rv_gV S 10 a0 0).bind fun a2_ =>
  (rv_ck S 7 a2_).bind fun u5_ =>
  (fnX8_open n S a2_ (900 : Int32)).bind fun S8_ =>
  rv_lt (64 + S8_.1.length) fun a13_ =>
  rv_lt (rv_new S8_ (9, rv_N 9)) fun S15_ =>
  (rv_gV S15_ 10 a0 0).bind fun a20_ =>
  (rv_gV S15_ 10 a0 2).bind fun a23_ =>
  (fnX10_init n S15_ a13_ a20_ a23_).bind fun S27_ =>
  (rv_ck S27_ 9 a13_).bind fun u35_ =>
  rv_bp (fnX10_read n S27_ a13_) fun x38_ S39_ =>
  if x38_ = 0 then (
    cX12_valley_46 n S39_ a0 a13_ x38_)
  else (
    (rv_gV S39_ 10 a0 1).bind fun a48_ =>
    (rv_gV S39_ 10 a0 2).bind fun a51_ =>
    (rv_ck S39_ 8 a48_).bind fun u54_ =>
    (fnX9_copyFrom n S39_ a48_ a51_).bind fun S57_ =>
    cX12_valley_46 n S57_ a0 a13_ x38_)
set_option maxRecDepth 20000 in
set_option maxHeartbeats 4000000 in
theorem eX12_valley_in (n : Nat) (S : rvS) (a0 : Nat) (r : Int32) (S' : rvS) (h : fnX12_valley n S a0 = some (r, S')) : rv_Ev mX12_valley 7 0 [(0, .ref a0)] [] S (some (.int r)) S' := by
  unfold fnX12_valley at h
  obtain ⟨_, g1_, h⟩ := rv_b_e h
  refine re_aloadn (pc := 0) 0 (by decide +kernel : decode cX12_valley 0 = .ok (.aload_n 0, 1)) rfl ?_
  obtain ⟨a2_, g3_, h⟩ := rv_b_e h
  have o4_ := (rv_gV_e g3_).2
  refine re_gR (pc := 1) (rv_gV_e g3_).1 lfX12_10 rfl (by decide +kernel : decode cX12_valley 1 = .ok (.getfield 10, 3)) ?_
  refine re_sipush (pc := 4) (900 : Int32) (by decide +kernel : decode cX12_valley 4 = .ok (.sipush 900, 3)) (by decide) ?_
  obtain ⟨u5_, g6_, h⟩ := rv_b_e h
  obtain ⟨S8_, g9_, h⟩ := rv_b_e h
  have m7_ := metX8_open n S a2_ (900 : Int32) _ g9_
  have z10_ : rv_same S S8_ := m7_.sh rfl
  have o11_ : a0 < 64 + S8_.1.length := by rw [z10_.1]; exact (rv_vl_e g1_)
  have o12_ : a2_ < 64 + S8_.1.length := by rw [z10_.1]; exact o4_
  refine re_cV (pc := 7) [.int (900 : Int32)] m7_ (rv_okl.k z10_) (rv_up.sh z10_) (by decide) (rv_ck_e g6_) ⟨by decide, rfl⟩ (Nat.le_of_ble_eq_true rfl) lVX12_73 rfl (by decide +kernel : decode cX12_valley 7 = .ok (.invokevirtual 73, 3)) ?_
  refine re_new (pc := 10) (c := 9) rfl (rv_alv (List.forall_mem_cons.mpr ⟨o11_, (fun _ z => absurd z List.not_mem_nil)⟩)) ((fun _ z => absurd z List.not_mem_nil)) (by decide) (rw2 239 (by decide +kernel) rfl) (rw3 0 (by decide +kernel) rfl) (rw1 14 (by decide +kernel) rfl) (by decide +kernel : decode cX12_valley 10 = .ok (.new 76, 3)) ?_
  obtain ⟨a13_, g14_, h⟩ := rv_lt_e h
  refine re_nR g14_ ?_
  obtain ⟨S15_, g16_, h⟩ := rv_lt_e h
  refine re_nS g16_ ?_
  have o17_ : a0 < 64 + S15_.1.length := rv_okn g16_ o11_
  have o18_ : a2_ < 64 + S15_.1.length := rv_okn g16_ o12_
  have o19_ : a13_ < 64 + S15_.1.length := by rw [← g14_]; exact rv_okn0 g16_
  refine re_dup (pc := 13) (by decide +kernel : decode cX12_valley 13 = .ok (.dup, 1)) rfl ?_
  refine re_aloadn (pc := 14) 0 (by decide +kernel : decode cX12_valley 14 = .ok (.aload_n 0, 1)) rfl ?_
  obtain ⟨a20_, g21_, h⟩ := rv_b_e h
  have o22_ := (rv_gV_e g21_).2
  refine re_gR (pc := 15) (rv_gV_e g21_).1 lfX12_10 rfl (by decide +kernel : decode cX12_valley 15 = .ok (.getfield 10, 3)) ?_
  refine re_aloadn (pc := 18) 0 (by decide +kernel : decode cX12_valley 18 = .ok (.aload_n 0, 1)) rfl ?_
  obtain ⟨a23_, g24_, h⟩ := rv_b_e h
  have o25_ := (rv_gV_e g24_).2
  refine re_gR (pc := 19) (rv_gV_e g24_).1 lfX12_23 rfl (by decide +kernel : decode cX12_valley 19 = .ok (.getfield 23, 3)) ?_
  obtain ⟨S27_, g28_, h⟩ := rv_b_e h
  have m26_ := metX10_init n S15_ a13_ a20_ a23_ _ g28_
  have z29_ : rv_same S15_ S27_ := m26_.sh rfl
  have o30_ : a0 < 64 + S27_.1.length := by rw [z29_.1]; exact o17_
  have o31_ : a2_ < 64 + S27_.1.length := by rw [z29_.1]; exact o18_
  have o32_ : a13_ < 64 + S27_.1.length := by rw [z29_.1]; exact o19_
  have o33_ : a20_ < 64 + S27_.1.length := by rw [z29_.1]; exact o22_
  have o34_ : a23_ < 64 + S27_.1.length := by rw [z29_.1]; exact o25_
  refine re_cI (pc := 22) [.ref a20_, .ref a23_] m26_ (rv_okl.k z29_) (rv_up.sh z29_) (by decide) (Nat.le_of_ble_eq_true rfl) lIX12_78 rfl (by decide +kernel : decode cX12_valley 22 = .ok (.invokespecial 78, 3)) ?_
  refine re_astoren (pc := 25) (lv1 := [(1, .ref a13_), (0, .ref a0)]) (by decide +kernel : decode cX12_valley 25 = .ok (.astore_n 1, 1)) rfl (by decide) rfl ?_
  refine re_aloadn (pc := 26) 0 (by decide +kernel : decode cX12_valley 26 = .ok (.aload_n 1, 1)) rfl ?_
  obtain ⟨u35_, g36_, h⟩ := rv_b_e h
  obtain ⟨x38_, S39_, g40_, h⟩ := rv_bp_e h
  have m37_ := metX10_read n S27_ a13_ _ _ g40_
  have z41_ : rv_same S27_ S39_ := m37_.sh rfl
  have o42_ : a0 < 64 + S39_.1.length := by rw [z41_.1]; exact o30_
  have o43_ : a2_ < 64 + S39_.1.length := by rw [z41_.1]; exact o31_
  have o44_ : a13_ < 64 + S39_.1.length := by rw [z41_.1]; exact o32_
  have o45_ : a20_ < 64 + S39_.1.length := by rw [z41_.1]; exact o33_
  have o46_ : a23_ < 64 + S39_.1.length := by rw [z41_.1]; exact o34_
  refine re_cV (pc := 27) [] m37_ (rv_okl.k z41_) (rv_up.sh z41_) (by decide) (rv_ck_e g36_) ⟨by decide, rfl⟩ (Nat.le_of_ble_eq_true rfl) lVX12_81 rfl (by decide +kernel : decode cX12_valley 27 = .ok (.invokevirtual 81, 3)) ?_
  refine re_istoren (pc := 30) (lv1 := [(2, .int x38_), (1, .ref a13_), (0, .ref a0)]) (by decide +kernel : decode cX12_valley 30 = .ok (.istore_n 2, 1)) rfl (by decide) rfl ?_
  refine re_iloadn (pc := 31) 0 (by decide +kernel : decode cX12_valley 31 = .ok (.iload_n 2, 1)) rfl ?_
  rcases rv_if_e h with ⟨g47_, h⟩ | ⟨g47_, h⟩
  · refine re_if_eq_t (pc := 32) 46 (by decide +kernel : decode cX12_valley 32 = .ok (.ifCond .eq 14, 3)) (by decide) g47_ ?_
    refine re_sub [2, 1, 0] (lv1 := [(0, .ref a0), (1, .ref a13_), (2, .int x38_)]) rfl ?_
    exact eX12_valley_46 n S39_ a0 a13_ x38_ _ _ h
  · refine re_if_eq_f (pc := 32) 46 (by decide +kernel : decode cX12_valley 32 = .ok (.ifCond .eq 14, 3)) (by decide) g47_ ?_
    refine re_aloadn (pc := 35) 2 (by decide +kernel : decode cX12_valley 35 = .ok (.aload_n 0, 1)) rfl ?_
    obtain ⟨a48_, g49_, h⟩ := rv_b_e h
    have o50_ := (rv_gV_e g49_).2
    refine re_gR (pc := 36) (rv_gV_e g49_).1 lfX12_19 rfl (by decide +kernel : decode cX12_valley 36 = .ok (.getfield 19, 3)) ?_
    refine re_aloadn (pc := 39) 2 (by decide +kernel : decode cX12_valley 39 = .ok (.aload_n 0, 1)) rfl ?_
    obtain ⟨a51_, g52_, h⟩ := rv_b_e h
    have o53_ := (rv_gV_e g52_).2
    refine re_gR (pc := 40) (rv_gV_e g52_).1 lfX12_23 rfl (by decide +kernel : decode cX12_valley 40 = .ok (.getfield 23, 3)) ?_
    obtain ⟨u54_, g55_, h⟩ := rv_b_e h
    obtain ⟨S57_, g58_, h⟩ := rv_b_e h
    have m56_ := metX9_copyFrom n S39_ a48_ a51_ _ g58_
    have z59_ : rv_same S39_ S57_ := m56_.sh rfl
    have o60_ : a0 < 64 + S57_.1.length := by rw [z59_.1]; exact o42_
    have o61_ : a2_ < 64 + S57_.1.length := by rw [z59_.1]; exact o43_
    have o62_ : a13_ < 64 + S57_.1.length := by rw [z59_.1]; exact o44_
    have o63_ : a20_ < 64 + S57_.1.length := by rw [z59_.1]; exact o45_
    have o64_ : a23_ < 64 + S57_.1.length := by rw [z59_.1]; exact o46_
    have o65_ : a48_ < 64 + S57_.1.length := by rw [z59_.1]; exact o50_
    have o66_ : a51_ < 64 + S57_.1.length := by rw [z59_.1]; exact o53_
    refine re_cV (pc := 43) [.ref a51_] m56_ (rv_okl.k z59_) (rv_up.sh z59_) (by decide) (rv_ck_e g55_) ⟨by decide, rfl⟩ (Nat.le_of_ble_eq_true rfl) lVX12_84 rfl (by decide +kernel : decode cX12_valley 43 = .ok (.invokevirtual 84, 3)) ?_
    refine re_sub [2, 1, 0] (lv1 := [(0, .ref a0), (1, .ref a13_), (2, .int x38_)]) rfl ?_
    exact eX12_valley_46 n S57_ a0 a13_ x38_ _ _ h
theorem metX12_valley (n : Nat) (S : rvS) (a0 : Nat) (r : Int32) (S' : rvS) (h : fnX12_valley n S a0 = some (r, S')) : rv_Met yX12_valley mX12_valley 7 [.ref a0] S (some (.int r)) S' := rv_Met.of ⟨by decide +kernel, rfl, (fun z => by first | rfl | cases z), rfl⟩ (Nat.le_of_ble_eq_true rfl) rfl (eX12_valley_in n S a0 r S' h)
noncomputable def fnX12_fault (n : Nat) (S : rvS) (a0 : Nat) : Option Int32 :=
  (rv_gI S 10 a0 11).bind fun x1_ =>
  some x1_
set_option maxRecDepth 20000 in
set_option maxHeartbeats 4000000 in
theorem eX12_fault_in (n : Nat) (S : rvS) (a0 : Nat) (r : Int32) (h : fnX12_fault n S a0 = some r) : rv_Ev mX12_fault 0 0 [(0, .ref a0)] [] S (some (.int r)) S := by
  unfold fnX12_fault at h
  refine re_aloadn (pc := 0) 0 (by decide +kernel : decode cX12_fault 0 = .ok (.aload_n 0, 1)) rfl ?_
  obtain ⟨x1_, g2_, h⟩ := rv_b_e h
  refine re_gI (pc := 1) g2_ lfX12_98 rfl (by decide +kernel : decode cX12_fault 1 = .ok (.getfield 98, 3)) ?_
  cases h
  exact re_iret (fun ty hty => by cases hty; rfl) (by decide +kernel : decode cX12_fault 4 = .ok (.ireturn, 1))
theorem metX12_fault (n : Nat) (S : rvS) (a0 : Nat) (r : Int32) (h : fnX12_fault n S a0 = some r) : rv_Met yX12_fault mX12_fault 0 [.ref a0] S (some (.int r)) S := rv_Met.of ⟨by decide +kernel, rfl, (fun z => by first | rfl | cases z), rfl⟩ (Nat.le_of_ble_eq_true rfl) rfl (eX12_fault_in n S a0 r h)
noncomputable def fnX12_isWho (n : Nat) (S : rvS) (a0 : Nat) (x1 : Int32) : Option Int32 :=
  (rv_gR S 10 a0 1).bind fun a1_ =>
  (rv_gR S 8 a1_ 0).bind fun a3_ =>
  (rv_ck S 0 a3_).bind fun u5_ =>
  (fnX1_has n S a3_ x1).bind fun x8_ =>
  (rv_bo x8_).bind fun b_ =>
  some b_
set_option maxRecDepth 20000 in
set_option maxHeartbeats 4000000 in
theorem eX12_isWho_in (n : Nat) (S : rvS) (a0 : Nat) (x1 : Int32) (r : Int32) (h : fnX12_isWho n S a0 x1 = some r) : rv_Ev mX12_isWho 1 0 [(0, .ref a0), (1, .int x1)] [] S (some (.int r)) S := by
  unfold fnX12_isWho at h
  refine re_aloadn (pc := 0) 0 (by decide +kernel : decode cX12_isWho 0 = .ok (.aload_n 0, 1)) rfl ?_
  obtain ⟨a1_, g2_, h⟩ := rv_b_e h
  refine re_gR (pc := 1) g2_ lfX12_19 rfl (by decide +kernel : decode cX12_isWho 1 = .ok (.getfield 19, 3)) ?_
  obtain ⟨a3_, g4_, h⟩ := rv_b_e h
  refine re_gR (pc := 4) g4_ lfX12_115 rfl (by decide +kernel : decode cX12_isWho 4 = .ok (.getfield 115, 3)) ?_
  refine re_iloadn (pc := 7) 1 (by decide +kernel : decode cX12_isWho 7 = .ok (.iload_n 1, 1)) rfl ?_
  obtain ⟨u5_, g6_, h⟩ := rv_b_e h
  obtain ⟨x8_, g9_, h⟩ := rv_b_e h
  have m7_ := metX1_has n S a3_ x1 _ g9_
  refine re_cV (pc := 8) [.int x1] m7_ (rv_okl.k ⟨rfl, rfl⟩) (rv_up.rf _ _) (by decide) (rv_ck_e g6_) ⟨by decide, rfl⟩ (Nat.le_of_ble_eq_true rfl) lVX12_407 rfl (by decide +kernel : decode cX12_isWho 8 = .ok (.invokevirtual 407, 3)) ?_
  obtain ⟨b_, gb_, h⟩ := rv_b_e h
  obtain ⟨gb1_, gb2_⟩ := rv_bo_e gb_
  refine re_nI (pc := 11) gb1_ ?_
  cases h
  exact re_iret (fun ty hty => by cases hty; exact gb2_) (by decide +kernel : decode cX12_isWho 11 = .ok (.ireturn, 1))
theorem metX12_isWho (n : Nat) (S : rvS) (a0 : Nat) (x1 : Int32) (r : Int32) (h : fnX12_isWho n S a0 x1 = some r) : rv_Met yX12_isWho mX12_isWho 1 [.ref a0, .int x1] S (some (.int r)) S := rv_Met.of ⟨by decide +kernel, rfl, (fun z => by first | rfl | cases z), rfl⟩ (Nat.le_of_ble_eq_true rfl) rfl (eX12_isWho_in n S a0 x1 r h)
noncomputable def fnX12_who (n : Nat) (S : rvS) (a0 : Nat) (x1 : Int32) (x2 : Int32) : Option Int32 :=
  (rv_ck S 10 a0).bind fun u1_ =>
  (fnX12_isWho n S a0 x1).bind fun x4_ =>
  if x4_ = 0 then (
    none)
  else (
    if x2 < 0 then (
      none)
    else (
      if x2 ≤ (5 : Int32) then (
        if x2 = 0 then (
          (rv_gR S 10 a0 1).bind fun a10_ =>
          (rv_gR S 8 a10_ 0).bind fun a12_ =>
          (rv_gR S 0 a12_ 3).bind fun a14_ =>
          (rv_aI S 0 a14_ x1).bind fun x16_ =>
          some x16_)
        else (
          if x2 = 1 then (
            (rv_gR S 10 a0 1).bind fun a19_ =>
            (rv_gR S 8 a19_ 0).bind fun a21_ =>
            (rv_gR S 0 a21_ 4).bind fun a23_ =>
            (rv_aI S 0 a23_ x1).bind fun x25_ =>
            (fnX12_lowest n S x25_).bind fun x28_ =>
            some x28_)
          else (
            if x2 = 2 then (
              (rv_gR S 10 a0 1).bind fun a31_ =>
              (rv_gR S 8 a31_ 0).bind fun a33_ =>
              (rv_ck S 0 a33_).bind fun u35_ =>
              (fnX1_isDead n S a33_ x1).bind fun x38_ =>
              if x38_ = 0 then (
                some (0 : Int32))
              else (
                some (1 : Int32)))
            else (
              if x2 = 3 then (
                (rv_gR S 10 a0 1).bind fun a42_ =>
                (rv_gR S 8 a42_ 0).bind fun a44_ =>
                (rv_ck S 0 a44_).bind fun u46_ =>
                (fnX1_isStranger n S a44_ x1).bind fun x49_ =>
                if x49_ = 0 then (
                  some (0 : Int32))
                else (
                  some (1 : Int32)))
              else (
                if x2 = 4 then (
                  (rv_gR S 10 a0 1).bind fun a53_ =>
                  (rv_gR S 8 a53_ 1).bind fun a55_ =>
                  (rv_ck S 5 a55_).bind fun u57_ =>
                  (fnX6_coinsOf n S a55_ x1).bind fun x60_ =>
                  (fnJ13_bitCount_95d88 n S x60_).bind fun x63_ =>
                  some x63_)
                else (
                  (rv_gR S 10 a0 1).bind fun a65_ =>
                  (rv_gR S 8 a65_ 1).bind fun a67_ =>
                  (rv_gR S 10 a0 1).bind fun a69_ =>
                  (rv_gR S 8 a69_ 1).bind fun a71_ =>
                  (rv_ck S 5 a71_).bind fun u73_ =>
                  (fnX6_coinsOf n S a71_ x1).bind fun x76_ =>
                  (rv_ck S 5 a67_).bind fun u78_ =>
                  (fnX6_worth n S a67_ x76_).bind fun x81_ =>
                  some x81_))))))
      else (
        none)))
set_option maxRecDepth 20000 in
set_option maxHeartbeats 4000000 in
theorem eX12_who_in (n : Nat) (S : rvS) (a0 : Nat) (x1 : Int32) (x2 : Int32) (r : Int32) (h : fnX12_who n S a0 x1 x2 = some r) : rv_Ev mX12_who 2 0 [(0, .ref a0), (1, .int x1), (2, .int x2)] [] S (some (.int r)) S := by
  unfold fnX12_who at h
  refine re_aloadn (pc := 0) 0 (by decide +kernel : decode cX12_who 0 = .ok (.aload_n 0, 1)) rfl ?_
  refine re_iloadn (pc := 1) 1 (by decide +kernel : decode cX12_who 1 = .ok (.iload_n 1, 1)) rfl ?_
  obtain ⟨u1_, g2_, h⟩ := rv_b_e h
  obtain ⟨x4_, g5_, h⟩ := rv_b_e h
  have m3_ := metX12_isWho n S a0 x1 _ g5_
  refine re_cV (pc := 2) [.int x1] m3_ (rv_okl.k ⟨rfl, rfl⟩) (rv_up.rf _ _) (by decide) (rv_ck_e g2_) ⟨by decide, rfl⟩ (Nat.le_of_ble_eq_true rfl) lVX12_104 rfl (by decide +kernel : decode cX12_who 2 = .ok (.invokevirtual 104, 3)) ?_
  rcases rv_if_e h with ⟨g6_, h⟩ | ⟨g6_, h⟩
  · refine re_if_eq_t (pc := 5) 17 (by decide +kernel : decode cX12_who 5 = .ok (.ifCond .eq 12, 3)) (by decide) g6_ ?_
    exact absurd h (by simp)
  · refine re_if_eq_f (pc := 5) 17 (by decide +kernel : decode cX12_who 5 = .ok (.ifCond .eq 12, 3)) (by decide) g6_ ?_
    refine re_iloadn (pc := 8) 2 (by decide +kernel : decode cX12_who 8 = .ok (.iload_n 2, 1)) rfl ?_
    rcases rv_if_e h with ⟨g7_, h⟩ | ⟨g7_, h⟩
    · refine re_if_lt_t (pc := 9) 17 (by decide +kernel : decode cX12_who 9 = .ok (.ifCond .lt 8, 3)) (by decide) g7_ ?_
      exact absurd h (by simp)
    · refine re_if_lt_f (pc := 9) 17 (by decide +kernel : decode cX12_who 9 = .ok (.ifCond .lt 8, 3)) (by decide) g7_ ?_
      refine re_iloadn (pc := 12) 2 (by decide +kernel : decode cX12_who 12 = .ok (.iload_n 2, 1)) rfl ?_
      refine re_iconst (pc := 13) (5 : Int32) (by decide +kernel : decode cX12_who 13 = .ok (.iconst 5, 1)) (by decide) ?_
      rcases rv_if_e h with ⟨g8_, h⟩ | ⟨g8_, h⟩
      · refine re_icmp_le_t (pc := 14) 27 (by decide +kernel : decode cX12_who 14 = .ok (.if_icmp .le 13, 3)) (by decide) g8_ ?_
        refine re_iloadn (pc := 27) 2 (by decide +kernel : decode cX12_who 27 = .ok (.iload_n 2, 1)) rfl ?_
        rcases rv_if_e h with ⟨g9_, h⟩ | ⟨g9_, h⟩
        · refine re_tabInE (pc := 28) (off := 36) 64 (by decide +kernel : decode cX12_who 28 = .ok (.tableswitch 120 0 4 #[36, 49, 65, 85, 105], 36)) g9_ (by decide) (by decide) (by decide) (by decide) ?_
          refine re_aloadn (pc := 64) 0 (by decide +kernel : decode cX12_who 64 = .ok (.aload_n 0, 1)) rfl ?_
          obtain ⟨a10_, g11_, h⟩ := rv_b_e h
          refine re_gR (pc := 65) g11_ lfX12_19 rfl (by decide +kernel : decode cX12_who 65 = .ok (.getfield 19, 3)) ?_
          obtain ⟨a12_, g13_, h⟩ := rv_b_e h
          refine re_gR (pc := 68) g13_ lfX12_115 rfl (by decide +kernel : decode cX12_who 68 = .ok (.getfield 115, 3)) ?_
          obtain ⟨a14_, g15_, h⟩ := rv_b_e h
          refine re_gR (pc := 71) g15_ lfX12_119 rfl (by decide +kernel : decode cX12_who 71 = .ok (.getfield 119, 3)) ?_
          refine re_iloadn (pc := 74) 1 (by decide +kernel : decode cX12_who 74 = .ok (.iload_n 1, 1)) rfl ?_
          obtain ⟨x16_, g17_, h⟩ := rv_b_e h
          refine re_aI (pc := 75) g17_ (by decide +kernel : decode cX12_who 75 = .ok (.iaload, 1)) ?_
          cases h
          exact re_iret (fun ty hty => by cases hty; rfl) (by decide +kernel : decode cX12_who 76 = .ok (.ireturn, 1))
        · skip
          rcases rv_if_e h with ⟨g18_, h⟩ | ⟨g18_, h⟩
          · refine re_tabInE (pc := 28) (off := 49) 77 (by decide +kernel : decode cX12_who 28 = .ok (.tableswitch 120 0 4 #[36, 49, 65, 85, 105], 36)) g18_ (by decide) (by decide) (by decide) (by decide) ?_
            refine re_aloadn (pc := 77) 0 (by decide +kernel : decode cX12_who 77 = .ok (.aload_n 0, 1)) rfl ?_
            obtain ⟨a19_, g20_, h⟩ := rv_b_e h
            refine re_gR (pc := 78) g20_ lfX12_19 rfl (by decide +kernel : decode cX12_who 78 = .ok (.getfield 19, 3)) ?_
            obtain ⟨a21_, g22_, h⟩ := rv_b_e h
            refine re_gR (pc := 81) g22_ lfX12_115 rfl (by decide +kernel : decode cX12_who 81 = .ok (.getfield 115, 3)) ?_
            obtain ⟨a23_, g24_, h⟩ := rv_b_e h
            refine re_gR (pc := 84) g24_ lfX12_125 rfl (by decide +kernel : decode cX12_who 84 = .ok (.getfield 125, 3)) ?_
            refine re_iloadn (pc := 87) 1 (by decide +kernel : decode cX12_who 87 = .ok (.iload_n 1, 1)) rfl ?_
            obtain ⟨x25_, g26_, h⟩ := rv_b_e h
            refine re_aI (pc := 88) g26_ (by decide +kernel : decode cX12_who 88 = .ok (.iaload, 1)) ?_
            obtain ⟨x28_, g29_, h⟩ := rv_b_e h
            have m27_ := metX12_lowest n S x25_ _ g29_
            refine re_cS (pc := 89) [.int x25_] m27_ (rv_okl.k ⟨rfl, rfl⟩) (rv_up.rf _ _) (by decide) (Nat.le_of_ble_eq_true rfl) lSX12_128 rfl (by decide +kernel : decode cX12_who 89 = .ok (.invokestatic 128, 3)) ?_
            cases h
            exact re_iret (fun ty hty => by cases hty; rfl) (by decide +kernel : decode cX12_who 92 = .ok (.ireturn, 1))
          · skip
            rcases rv_if_e h with ⟨g30_, h⟩ | ⟨g30_, h⟩
            · refine re_tabInE (pc := 28) (off := 65) 93 (by decide +kernel : decode cX12_who 28 = .ok (.tableswitch 120 0 4 #[36, 49, 65, 85, 105], 36)) g30_ (by decide) (by decide) (by decide) (by decide) ?_
              refine re_aloadn (pc := 93) 0 (by decide +kernel : decode cX12_who 93 = .ok (.aload_n 0, 1)) rfl ?_
              obtain ⟨a31_, g32_, h⟩ := rv_b_e h
              refine re_gR (pc := 94) g32_ lfX12_19 rfl (by decide +kernel : decode cX12_who 94 = .ok (.getfield 19, 3)) ?_
              obtain ⟨a33_, g34_, h⟩ := rv_b_e h
              refine re_gR (pc := 97) g34_ lfX12_115 rfl (by decide +kernel : decode cX12_who 97 = .ok (.getfield 115, 3)) ?_
              refine re_iloadn (pc := 100) 1 (by decide +kernel : decode cX12_who 100 = .ok (.iload_n 1, 1)) rfl ?_
              obtain ⟨u35_, g36_, h⟩ := rv_b_e h
              obtain ⟨x38_, g39_, h⟩ := rv_b_e h
              have m37_ := metX1_isDead n S a33_ x1 _ g39_
              refine re_cV (pc := 101) [.int x1] m37_ (rv_okl.k ⟨rfl, rfl⟩) (rv_up.rf _ _) (by decide) (rv_ck_e g36_) ⟨by decide, rfl⟩ (Nat.le_of_ble_eq_true rfl) lVX12_132 rfl (by decide +kernel : decode cX12_who 101 = .ok (.invokevirtual 132, 3)) ?_
              rcases rv_if_e h with ⟨g40_, h⟩ | ⟨g40_, h⟩
              · refine re_if_eq_t (pc := 104) 111 (by decide +kernel : decode cX12_who 104 = .ok (.ifCond .eq 7, 3)) (by decide) g40_ ?_
                refine re_iconst (pc := 111) (0 : Int32) (by decide +kernel : decode cX12_who 111 = .ok (.iconst 0, 1)) (by decide) ?_
                cases h
                exact re_iret (fun ty hty => by cases hty; rfl) (by decide +kernel : decode cX12_who 112 = .ok (.ireturn, 1))
              · refine re_if_eq_f (pc := 104) 111 (by decide +kernel : decode cX12_who 104 = .ok (.ifCond .eq 7, 3)) (by decide) g40_ ?_
                refine re_iconst (pc := 107) (1 : Int32) (by decide +kernel : decode cX12_who 107 = .ok (.iconst 1, 1)) (by decide) ?_
                refine re_goto (pc := 108) 112 (by decide +kernel : decode cX12_who 108 = .ok (.goto 4, 3)) (by decide) ?_
                cases h
                exact re_iret (fun ty hty => by cases hty; rfl) (by decide +kernel : decode cX12_who 112 = .ok (.ireturn, 1))
            · skip
              rcases rv_if_e h with ⟨g41_, h⟩ | ⟨g41_, h⟩
              · refine re_tabInE (pc := 28) (off := 85) 113 (by decide +kernel : decode cX12_who 28 = .ok (.tableswitch 120 0 4 #[36, 49, 65, 85, 105], 36)) g41_ (by decide) (by decide) (by decide) (by decide) ?_
                refine re_aloadn (pc := 113) 0 (by decide +kernel : decode cX12_who 113 = .ok (.aload_n 0, 1)) rfl ?_
                obtain ⟨a42_, g43_, h⟩ := rv_b_e h
                refine re_gR (pc := 114) g43_ lfX12_19 rfl (by decide +kernel : decode cX12_who 114 = .ok (.getfield 19, 3)) ?_
                obtain ⟨a44_, g45_, h⟩ := rv_b_e h
                refine re_gR (pc := 117) g45_ lfX12_115 rfl (by decide +kernel : decode cX12_who 117 = .ok (.getfield 115, 3)) ?_
                refine re_iloadn (pc := 120) 1 (by decide +kernel : decode cX12_who 120 = .ok (.iload_n 1, 1)) rfl ?_
                obtain ⟨u46_, g47_, h⟩ := rv_b_e h
                obtain ⟨x49_, g50_, h⟩ := rv_b_e h
                have m48_ := metX1_isStranger n S a44_ x1 _ g50_
                refine re_cV (pc := 121) [.int x1] m48_ (rv_okl.k ⟨rfl, rfl⟩) (rv_up.rf _ _) (by decide) (rv_ck_e g47_) ⟨by decide, rfl⟩ (Nat.le_of_ble_eq_true rfl) lVX12_135 rfl (by decide +kernel : decode cX12_who 121 = .ok (.invokevirtual 135, 3)) ?_
                rcases rv_if_e h with ⟨g51_, h⟩ | ⟨g51_, h⟩
                · refine re_if_eq_t (pc := 124) 131 (by decide +kernel : decode cX12_who 124 = .ok (.ifCond .eq 7, 3)) (by decide) g51_ ?_
                  refine re_iconst (pc := 131) (0 : Int32) (by decide +kernel : decode cX12_who 131 = .ok (.iconst 0, 1)) (by decide) ?_
                  cases h
                  exact re_iret (fun ty hty => by cases hty; rfl) (by decide +kernel : decode cX12_who 132 = .ok (.ireturn, 1))
                · refine re_if_eq_f (pc := 124) 131 (by decide +kernel : decode cX12_who 124 = .ok (.ifCond .eq 7, 3)) (by decide) g51_ ?_
                  refine re_iconst (pc := 127) (1 : Int32) (by decide +kernel : decode cX12_who 127 = .ok (.iconst 1, 1)) (by decide) ?_
                  refine re_goto (pc := 128) 132 (by decide +kernel : decode cX12_who 128 = .ok (.goto 4, 3)) (by decide) ?_
                  cases h
                  exact re_iret (fun ty hty => by cases hty; rfl) (by decide +kernel : decode cX12_who 132 = .ok (.ireturn, 1))
              · skip
                rcases rv_if_e h with ⟨g52_, h⟩ | ⟨g52_, h⟩
                · refine re_tabInE (pc := 28) (off := 105) 133 (by decide +kernel : decode cX12_who 28 = .ok (.tableswitch 120 0 4 #[36, 49, 65, 85, 105], 36)) g52_ (by decide) (by decide) (by decide) (by decide) ?_
                  refine re_aloadn (pc := 133) 0 (by decide +kernel : decode cX12_who 133 = .ok (.aload_n 0, 1)) rfl ?_
                  obtain ⟨a53_, g54_, h⟩ := rv_b_e h
                  refine re_gR (pc := 134) g54_ lfX12_19 rfl (by decide +kernel : decode cX12_who 134 = .ok (.getfield 19, 3)) ?_
                  obtain ⟨a55_, g56_, h⟩ := rv_b_e h
                  refine re_gR (pc := 137) g56_ lfX12_138 rfl (by decide +kernel : decode cX12_who 137 = .ok (.getfield 138, 3)) ?_
                  refine re_iloadn (pc := 140) 1 (by decide +kernel : decode cX12_who 140 = .ok (.iload_n 1, 1)) rfl ?_
                  obtain ⟨u57_, g58_, h⟩ := rv_b_e h
                  obtain ⟨x60_, g61_, h⟩ := rv_b_e h
                  have m59_ := metX6_coinsOf n S a55_ x1 _ g61_
                  refine re_cV (pc := 141) [.int x1] m59_ (rv_okl.k ⟨rfl, rfl⟩) (rv_up.rf _ _) (by decide) (rv_ck_e g58_) ⟨by decide, rfl⟩ (Nat.le_of_ble_eq_true rfl) lVX12_142 rfl (by decide +kernel : decode cX12_who 141 = .ok (.invokevirtual 142, 3)) ?_
                  obtain ⟨x63_, g64_, h⟩ := rv_b_e h
                  have m62_ := metJ13_bitCount_95d88 n S x60_ _ g64_
                  refine re_cS (pc := 144) [.long x60_] m62_ (rv_okl.k ⟨rfl, rfl⟩) (rv_up.rf _ _) (by decide) (Nat.le_of_ble_eq_true rfl) lSX12_148 rfl (by decide +kernel : decode cX12_who 144 = .ok (.invokestatic 148, 3)) ?_
                  cases h
                  exact re_iret (fun ty hty => by cases hty; rfl) (by decide +kernel : decode cX12_who 147 = .ok (.ireturn, 1))
                · skip
                  refine re_tabOut (pc := 28) (dflt := 120) 148 (by decide +kernel : decode cX12_who 28 = .ok (.tableswitch 120 0 4 #[36, 49, 65, 85, 105], 36)) (by have z0_ := lv_neT g9_ (a := 0) (by decide); have z1_ := lv_neT g18_ (a := 1) (by decide); have z2_ := lv_neT g30_ (a := 2) (by decide); have z3_ := lv_neT g41_ (a := 3) (by decide); have z4_ := lv_neT g52_ (a := 4) (by decide); omega) (by decide) ?_
                  refine re_aloadn (pc := 148) 0 (by decide +kernel : decode cX12_who 148 = .ok (.aload_n 0, 1)) rfl ?_
                  obtain ⟨a65_, g66_, h⟩ := rv_b_e h
                  refine re_gR (pc := 149) g66_ lfX12_19 rfl (by decide +kernel : decode cX12_who 149 = .ok (.getfield 19, 3)) ?_
                  obtain ⟨a67_, g68_, h⟩ := rv_b_e h
                  refine re_gR (pc := 152) g68_ lfX12_138 rfl (by decide +kernel : decode cX12_who 152 = .ok (.getfield 138, 3)) ?_
                  refine re_aloadn (pc := 155) 0 (by decide +kernel : decode cX12_who 155 = .ok (.aload_n 0, 1)) rfl ?_
                  obtain ⟨a69_, g70_, h⟩ := rv_b_e h
                  refine re_gR (pc := 156) g70_ lfX12_19 rfl (by decide +kernel : decode cX12_who 156 = .ok (.getfield 19, 3)) ?_
                  obtain ⟨a71_, g72_, h⟩ := rv_b_e h
                  refine re_gR (pc := 159) g72_ lfX12_138 rfl (by decide +kernel : decode cX12_who 159 = .ok (.getfield 138, 3)) ?_
                  refine re_iloadn (pc := 162) 1 (by decide +kernel : decode cX12_who 162 = .ok (.iload_n 1, 1)) rfl ?_
                  obtain ⟨u73_, g74_, h⟩ := rv_b_e h
                  obtain ⟨x76_, g77_, h⟩ := rv_b_e h
                  have m75_ := metX6_coinsOf n S a71_ x1 _ g77_
                  refine re_cV (pc := 163) [.int x1] m75_ (rv_okl.k ⟨rfl, rfl⟩) (rv_up.rf _ _) (by decide) (rv_ck_e g74_) ⟨by decide, rfl⟩ (Nat.le_of_ble_eq_true rfl) lVX12_142 rfl (by decide +kernel : decode cX12_who 163 = .ok (.invokevirtual 142, 3)) ?_
                  obtain ⟨u78_, g79_, h⟩ := rv_b_e h
                  obtain ⟨x81_, g82_, h⟩ := rv_b_e h
                  have m80_ := metX6_worth n S a67_ x76_ _ g82_
                  refine re_cV (pc := 166) [.long x76_] m80_ (rv_okl.k ⟨rfl, rfl⟩) (rv_up.rf _ _) (by decide) (rv_ck_e g79_) ⟨by decide, rfl⟩ (Nat.le_of_ble_eq_true rfl) lVX12_154 rfl (by decide +kernel : decode cX12_who 166 = .ok (.invokevirtual 154, 3)) ?_
                  cases h
                  exact re_iret (fun ty hty => by cases hty; rfl) (by decide +kernel : decode cX12_who 169 = .ok (.ireturn, 1))
      · refine re_icmp_le_f (pc := 14) 27 (by decide +kernel : decode cX12_who 14 = .ok (.if_icmp .le 13, 3)) (by decide) g8_ ?_
        exact absurd h (by simp)
theorem metX12_who (n : Nat) (S : rvS) (a0 : Nat) (x1 : Int32) (x2 : Int32) (r : Int32) (h : fnX12_who n S a0 x1 x2 = some r) : rv_Met yX12_who mX12_who 2 [.ref a0, .int x1, .int x2] S (some (.int r)) S := rv_Met.of ⟨by decide +kernel, rfl, (fun z => by first | rfl | cases z), rfl⟩ (Nat.le_of_ble_eq_true rfl) rfl (eX12_who_in n S a0 x1 x2 r h)
noncomputable def ftX12_who (n : Nat) (S : rvS) (a0 : Nat) (x1 : Int32) (x2 : Int32) : Option Unit :=
  (rv_ck S 10 a0).bind fun u1_ =>
  (fnX12_isWho n S a0 x1).bind fun x4_ =>
  if x4_ = 0 then (
    some ())
  else (
    if x2 < 0 then (
      some ())
    else (
      if x2 ≤ (5 : Int32) then (
        none)
      else (
        some ())))
set_option maxRecDepth 20000 in
set_option maxHeartbeats 4000000 in
theorem etX12_who (n : Nat) (S : rvS) (a0 : Nat) (x1 : Int32) (x2 : Int32) (h : ftX12_who n S a0 x1 x2 = some ()) : rv_Ev mX12_who 2 0 [(0, .ref a0), (1, .int x1), (2, .int x2)] [] S (some (.retAddr 17)) S := by
  unfold ftX12_who at h
  refine re_aloadn (pc := 0) 0 (by decide +kernel : decode cX12_who 0 = .ok (.aload_n 0, 1)) rfl ?_
  refine re_iloadn (pc := 1) 1 (by decide +kernel : decode cX12_who 1 = .ok (.iload_n 1, 1)) rfl ?_
  obtain ⟨u1_, g2_, h⟩ := rv_b_e h
  obtain ⟨x4_, g5_, h⟩ := rv_b_e h
  have m3_ := metX12_isWho n S a0 x1 _ g5_
  refine re_cV (pc := 2) [.int x1] m3_ (rv_okl.k ⟨rfl, rfl⟩) (rv_up.rf _ _) (by decide) (rv_ck_e g2_) ⟨by decide, rfl⟩ (Nat.le_of_ble_eq_true rfl) lVX12_104 rfl (by decide +kernel : decode cX12_who 2 = .ok (.invokevirtual 104, 3)) ?_
  rcases rv_if_e h with ⟨g6_, h⟩ | ⟨g6_, h⟩
  · refine re_if_eq_t (pc := 5) 17 (by decide +kernel : decode cX12_who 5 = .ok (.ifCond .eq 12, 3)) (by decide) g6_ ?_
    exact re_thr
  · refine re_if_eq_f (pc := 5) 17 (by decide +kernel : decode cX12_who 5 = .ok (.ifCond .eq 12, 3)) (by decide) g6_ ?_
    refine re_iloadn (pc := 8) 2 (by decide +kernel : decode cX12_who 8 = .ok (.iload_n 2, 1)) rfl ?_
    rcases rv_if_e h with ⟨g7_, h⟩ | ⟨g7_, h⟩
    · refine re_if_lt_t (pc := 9) 17 (by decide +kernel : decode cX12_who 9 = .ok (.ifCond .lt 8, 3)) (by decide) g7_ ?_
      exact re_thr
    · refine re_if_lt_f (pc := 9) 17 (by decide +kernel : decode cX12_who 9 = .ok (.ifCond .lt 8, 3)) (by decide) g7_ ?_
      refine re_iloadn (pc := 12) 2 (by decide +kernel : decode cX12_who 12 = .ok (.iload_n 2, 1)) rfl ?_
      refine re_iconst (pc := 13) (5 : Int32) (by decide +kernel : decode cX12_who 13 = .ok (.iconst 5, 1)) (by decide) ?_
      rcases rv_if_e h with ⟨g8_, h⟩ | ⟨g8_, h⟩
      · refine re_icmp_le_t (pc := 14) 27 (by decide +kernel : decode cX12_who 14 = .ok (.if_icmp .le 13, 3)) (by decide) g8_ ?_
        exact absurd h (by simp)
      · refine re_icmp_le_f (pc := 14) 27 (by decide +kernel : decode cX12_who 14 = .ok (.if_icmp .le 13, 3)) (by decide) g8_ ?_
        exact re_thr
noncomputable def fnX12_isCoin (n : Nat) (S : rvS) (a0 : Nat) (x1 : Int32) : Option Int32 :=
  if x1 < 0 then (
    some (0 : Int32))
  else (
    (rv_gR S 10 a0 1).bind fun a2_ =>
    (rv_gR S 8 a2_ 1).bind fun a4_ =>
    (rv_gI S 5 a4_ 0).bind fun x6_ =>
    if x6_ ≤ x1 then (
      some (0 : Int32))
    else (
      some (1 : Int32)))
set_option maxRecDepth 20000 in
set_option maxHeartbeats 4000000 in
theorem eX12_isCoin_in (n : Nat) (S : rvS) (a0 : Nat) (x1 : Int32) (r : Int32) (h : fnX12_isCoin n S a0 x1 = some r) : rv_Ev mX12_isCoin 0 0 [(0, .ref a0), (1, .int x1)] [] S (some (.int r)) S := by
  unfold fnX12_isCoin at h
  refine re_iloadn (pc := 0) 1 (by decide +kernel : decode cX12_isCoin 0 = .ok (.iload_n 1, 1)) rfl ?_
  rcases rv_if_e h with ⟨g1_, h⟩ | ⟨g1_, h⟩
  · refine re_if_lt_t (pc := 1) 22 (by decide +kernel : decode cX12_isCoin 1 = .ok (.ifCond .lt 21, 3)) (by decide) g1_ ?_
    refine re_iconst (pc := 22) (0 : Int32) (by decide +kernel : decode cX12_isCoin 22 = .ok (.iconst 0, 1)) (by decide) ?_
    cases h
    exact re_iret (fun ty hty => by cases hty; rfl) (by decide +kernel : decode cX12_isCoin 23 = .ok (.ireturn, 1))
  · refine re_if_lt_f (pc := 1) 22 (by decide +kernel : decode cX12_isCoin 1 = .ok (.ifCond .lt 21, 3)) (by decide) g1_ ?_
    refine re_iloadn (pc := 4) 1 (by decide +kernel : decode cX12_isCoin 4 = .ok (.iload_n 1, 1)) rfl ?_
    refine re_aloadn (pc := 5) 0 (by decide +kernel : decode cX12_isCoin 5 = .ok (.aload_n 0, 1)) rfl ?_
    obtain ⟨a2_, g3_, h⟩ := rv_b_e h
    refine re_gR (pc := 6) g3_ lfX12_19 rfl (by decide +kernel : decode cX12_isCoin 6 = .ok (.getfield 19, 3)) ?_
    obtain ⟨a4_, g5_, h⟩ := rv_b_e h
    refine re_gR (pc := 9) g5_ lfX12_138 rfl (by decide +kernel : decode cX12_isCoin 9 = .ok (.getfield 138, 3)) ?_
    obtain ⟨x6_, g7_, h⟩ := rv_b_e h
    refine re_gI (pc := 12) g7_ lfX12_216 rfl (by decide +kernel : decode cX12_isCoin 12 = .ok (.getfield 216, 3)) ?_
    rcases rv_if_e h with ⟨g8_, h⟩ | ⟨g8_, h⟩
    · refine re_icmp_ge_t (pc := 15) 22 (by decide +kernel : decode cX12_isCoin 15 = .ok (.if_icmp .ge 7, 3)) (by decide) g8_ ?_
      refine re_iconst (pc := 22) (0 : Int32) (by decide +kernel : decode cX12_isCoin 22 = .ok (.iconst 0, 1)) (by decide) ?_
      cases h
      exact re_iret (fun ty hty => by cases hty; rfl) (by decide +kernel : decode cX12_isCoin 23 = .ok (.ireturn, 1))
    · refine re_icmp_ge_f (pc := 15) 22 (by decide +kernel : decode cX12_isCoin 15 = .ok (.if_icmp .ge 7, 3)) (by decide) g8_ ?_
      refine re_iconst (pc := 18) (1 : Int32) (by decide +kernel : decode cX12_isCoin 18 = .ok (.iconst 1, 1)) (by decide) ?_
      refine re_goto (pc := 19) 23 (by decide +kernel : decode cX12_isCoin 19 = .ok (.goto 4, 3)) (by decide) ?_
      cases h
      exact re_iret (fun ty hty => by cases hty; rfl) (by decide +kernel : decode cX12_isCoin 23 = .ok (.ireturn, 1))
theorem metX12_isCoin (n : Nat) (S : rvS) (a0 : Nat) (x1 : Int32) (r : Int32) (h : fnX12_isCoin n S a0 x1 = some r) : rv_Met yX12_isCoin mX12_isCoin 0 [.ref a0, .int x1] S (some (.int r)) S := rv_Met.of ⟨by decide +kernel, rfl, (fun z => by first | rfl | cases z), rfl⟩ (Nat.le_of_ble_eq_true rfl) rfl (eX12_isCoin_in n S a0 x1 r h)
noncomputable def fnX12_coin (n : Nat) (S : rvS) (a0 : Nat) (x1 : Int32) (x2 : Int32) : Option Int32 :=
  (rv_ck S 10 a0).bind fun u1_ =>
  (fnX12_isCoin n S a0 x1).bind fun x4_ =>
  if x4_ = 0 then (
    none)
  else (
    if x2 < 0 then (
      none)
    else (
      if x2 ≤ (4 : Int32) then (
        if x2 = 0 then (
          (rv_gR S 10 a0 1).bind fun a10_ =>
          (rv_gR S 8 a10_ 1).bind fun a12_ =>
          (rv_gR S 5 a12_ 2).bind fun a14_ =>
          (rv_aI S 0 a14_ x1).bind fun x16_ =>
          some x16_)
        else (
          if x2 = 1 then (
            (rv_gR S 10 a0 1).bind fun a19_ =>
            (rv_gR S 8 a19_ 1).bind fun a21_ =>
            (rv_gR S 5 a21_ 3).bind fun a23_ =>
            (rv_aI S 0 a23_ x1).bind fun x25_ =>
            some x25_)
          else (
            if x2 = 2 then (
              (rv_gR S 10 a0 1).bind fun a28_ =>
              (rv_gR S 8 a28_ 1).bind fun a30_ =>
              (rv_ck S 5 a30_).bind fun u32_ =>
              (fnX6_names n S a30_ x1).bind fun x35_ =>
              some x35_)
            else (
              if x2 = 3 then (
                (rv_gR S 10 a0 1).bind fun a38_ =>
                (rv_ck S 8 a38_).bind fun u40_ =>
                (fnX9_goers n S a38_ x1).bind fun x43_ =>
                (fnJ6_bitCount_0f7a4 n S x43_).bind fun x46_ =>
                some x46_)
              else (
                (rv_gR S 10 a0 1).bind fun a48_ =>
                (rv_ck S 8 a48_).bind fun u50_ =>
                (fnX9_forgery n S a48_ x1).bind fun x53_ =>
                some x53_)))))
      else (
        none)))
set_option maxRecDepth 20000 in
set_option maxHeartbeats 4000000 in
theorem eX12_coin_in (n : Nat) (S : rvS) (a0 : Nat) (x1 : Int32) (x2 : Int32) (r : Int32) (h : fnX12_coin n S a0 x1 x2 = some r) : rv_Ev mX12_coin 4 0 [(0, .ref a0), (1, .int x1), (2, .int x2)] [] S (some (.int r)) S := by
  unfold fnX12_coin at h
  refine re_aloadn (pc := 0) 0 (by decide +kernel : decode cX12_coin 0 = .ok (.aload_n 0, 1)) rfl ?_
  refine re_iloadn (pc := 1) 1 (by decide +kernel : decode cX12_coin 1 = .ok (.iload_n 1, 1)) rfl ?_
  obtain ⟨u1_, g2_, h⟩ := rv_b_e h
  obtain ⟨x4_, g5_, h⟩ := rv_b_e h
  have m3_ := metX12_isCoin n S a0 x1 _ g5_
  refine re_cV (pc := 2) [.int x1] m3_ (rv_okl.k ⟨rfl, rfl⟩) (rv_up.rf _ _) (by decide) (rv_ck_e g2_) ⟨by decide, rfl⟩ (Nat.le_of_ble_eq_true rfl) lVX12_157 rfl (by decide +kernel : decode cX12_coin 2 = .ok (.invokevirtual 157, 3)) ?_
  rcases rv_if_e h with ⟨g6_, h⟩ | ⟨g6_, h⟩
  · refine re_if_eq_t (pc := 5) 17 (by decide +kernel : decode cX12_coin 5 = .ok (.ifCond .eq 12, 3)) (by decide) g6_ ?_
    exact absurd h (by simp)
  · refine re_if_eq_f (pc := 5) 17 (by decide +kernel : decode cX12_coin 5 = .ok (.ifCond .eq 12, 3)) (by decide) g6_ ?_
    refine re_iloadn (pc := 8) 2 (by decide +kernel : decode cX12_coin 8 = .ok (.iload_n 2, 1)) rfl ?_
    rcases rv_if_e h with ⟨g7_, h⟩ | ⟨g7_, h⟩
    · refine re_if_lt_t (pc := 9) 17 (by decide +kernel : decode cX12_coin 9 = .ok (.ifCond .lt 8, 3)) (by decide) g7_ ?_
      exact absurd h (by simp)
    · refine re_if_lt_f (pc := 9) 17 (by decide +kernel : decode cX12_coin 9 = .ok (.ifCond .lt 8, 3)) (by decide) g7_ ?_
      refine re_iloadn (pc := 12) 2 (by decide +kernel : decode cX12_coin 12 = .ok (.iload_n 2, 1)) rfl ?_
      refine re_iconst (pc := 13) (4 : Int32) (by decide +kernel : decode cX12_coin 13 = .ok (.iconst 4, 1)) (by decide) ?_
      rcases rv_if_e h with ⟨g8_, h⟩ | ⟨g8_, h⟩
      · refine re_icmp_le_t (pc := 14) 27 (by decide +kernel : decode cX12_coin 14 = .ok (.if_icmp .le 13, 3)) (by decide) g8_ ?_
        refine re_iloadn (pc := 27) 2 (by decide +kernel : decode cX12_coin 27 = .ok (.iload_n 2, 1)) rfl ?_
        rcases rv_if_e h with ⟨g9_, h⟩ | ⟨g9_, h⟩
        · refine re_tabInE (pc := 28) (off := 32) 60 (by decide +kernel : decode cX12_coin 28 = .ok (.tableswitch 82 0 3 #[32, 45, 58, 70], 32)) g9_ (by decide) (by decide) (by decide) (by decide) ?_
          refine re_aloadn (pc := 60) 0 (by decide +kernel : decode cX12_coin 60 = .ok (.aload_n 0, 1)) rfl ?_
          obtain ⟨a10_, g11_, h⟩ := rv_b_e h
          refine re_gR (pc := 61) g11_ lfX12_19 rfl (by decide +kernel : decode cX12_coin 61 = .ok (.getfield 19, 3)) ?_
          obtain ⟨a12_, g13_, h⟩ := rv_b_e h
          refine re_gR (pc := 64) g13_ lfX12_138 rfl (by decide +kernel : decode cX12_coin 64 = .ok (.getfield 138, 3)) ?_
          obtain ⟨a14_, g15_, h⟩ := rv_b_e h
          refine re_gR (pc := 67) g15_ lfX12_162 rfl (by decide +kernel : decode cX12_coin 67 = .ok (.getfield 162, 3)) ?_
          refine re_iloadn (pc := 70) 1 (by decide +kernel : decode cX12_coin 70 = .ok (.iload_n 1, 1)) rfl ?_
          obtain ⟨x16_, g17_, h⟩ := rv_b_e h
          refine re_aI (pc := 71) g17_ (by decide +kernel : decode cX12_coin 71 = .ok (.iaload, 1)) ?_
          cases h
          exact re_iret (fun ty hty => by cases hty; rfl) (by decide +kernel : decode cX12_coin 72 = .ok (.ireturn, 1))
        · skip
          rcases rv_if_e h with ⟨g18_, h⟩ | ⟨g18_, h⟩
          · refine re_tabInE (pc := 28) (off := 45) 73 (by decide +kernel : decode cX12_coin 28 = .ok (.tableswitch 82 0 3 #[32, 45, 58, 70], 32)) g18_ (by decide) (by decide) (by decide) (by decide) ?_
            refine re_aloadn (pc := 73) 0 (by decide +kernel : decode cX12_coin 73 = .ok (.aload_n 0, 1)) rfl ?_
            obtain ⟨a19_, g20_, h⟩ := rv_b_e h
            refine re_gR (pc := 74) g20_ lfX12_19 rfl (by decide +kernel : decode cX12_coin 74 = .ok (.getfield 19, 3)) ?_
            obtain ⟨a21_, g22_, h⟩ := rv_b_e h
            refine re_gR (pc := 77) g22_ lfX12_138 rfl (by decide +kernel : decode cX12_coin 77 = .ok (.getfield 138, 3)) ?_
            obtain ⟨a23_, g24_, h⟩ := rv_b_e h
            refine re_gR (pc := 80) g24_ lfX12_165 rfl (by decide +kernel : decode cX12_coin 80 = .ok (.getfield 165, 3)) ?_
            refine re_iloadn (pc := 83) 1 (by decide +kernel : decode cX12_coin 83 = .ok (.iload_n 1, 1)) rfl ?_
            obtain ⟨x25_, g26_, h⟩ := rv_b_e h
            refine re_aI (pc := 84) g26_ (by decide +kernel : decode cX12_coin 84 = .ok (.iaload, 1)) ?_
            cases h
            exact re_iret (fun ty hty => by cases hty; rfl) (by decide +kernel : decode cX12_coin 85 = .ok (.ireturn, 1))
          · skip
            rcases rv_if_e h with ⟨g27_, h⟩ | ⟨g27_, h⟩
            · refine re_tabInE (pc := 28) (off := 58) 86 (by decide +kernel : decode cX12_coin 28 = .ok (.tableswitch 82 0 3 #[32, 45, 58, 70], 32)) g27_ (by decide) (by decide) (by decide) (by decide) ?_
              refine re_aloadn (pc := 86) 0 (by decide +kernel : decode cX12_coin 86 = .ok (.aload_n 0, 1)) rfl ?_
              obtain ⟨a28_, g29_, h⟩ := rv_b_e h
              refine re_gR (pc := 87) g29_ lfX12_19 rfl (by decide +kernel : decode cX12_coin 87 = .ok (.getfield 19, 3)) ?_
              obtain ⟨a30_, g31_, h⟩ := rv_b_e h
              refine re_gR (pc := 90) g31_ lfX12_138 rfl (by decide +kernel : decode cX12_coin 90 = .ok (.getfield 138, 3)) ?_
              refine re_iloadn (pc := 93) 1 (by decide +kernel : decode cX12_coin 93 = .ok (.iload_n 1, 1)) rfl ?_
              obtain ⟨u32_, g33_, h⟩ := rv_b_e h
              obtain ⟨x35_, g36_, h⟩ := rv_b_e h
              have m34_ := metX6_names n S a30_ x1 _ g36_
              refine re_cV (pc := 94) [.int x1] m34_ (rv_okl.k ⟨rfl, rfl⟩) (rv_up.rf _ _) (by decide) (rv_ck_e g33_) ⟨by decide, rfl⟩ (Nat.le_of_ble_eq_true rfl) lVX12_168 rfl (by decide +kernel : decode cX12_coin 94 = .ok (.invokevirtual 168, 3)) ?_
              cases h
              exact re_iret (fun ty hty => by cases hty; rfl) (by decide +kernel : decode cX12_coin 97 = .ok (.ireturn, 1))
            · skip
              rcases rv_if_e h with ⟨g37_, h⟩ | ⟨g37_, h⟩
              · refine re_tabInE (pc := 28) (off := 70) 98 (by decide +kernel : decode cX12_coin 28 = .ok (.tableswitch 82 0 3 #[32, 45, 58, 70], 32)) g37_ (by decide) (by decide) (by decide) (by decide) ?_
                refine re_aloadn (pc := 98) 0 (by decide +kernel : decode cX12_coin 98 = .ok (.aload_n 0, 1)) rfl ?_
                obtain ⟨a38_, g39_, h⟩ := rv_b_e h
                refine re_gR (pc := 99) g39_ lfX12_19 rfl (by decide +kernel : decode cX12_coin 99 = .ok (.getfield 19, 3)) ?_
                refine re_iloadn (pc := 102) 1 (by decide +kernel : decode cX12_coin 102 = .ok (.iload_n 1, 1)) rfl ?_
                obtain ⟨u40_, g41_, h⟩ := rv_b_e h
                obtain ⟨x43_, g44_, h⟩ := rv_b_e h
                have m42_ := metX9_goers n S a38_ x1 _ g44_
                refine re_cV (pc := 103) [.int x1] m42_ (rv_okl.k ⟨rfl, rfl⟩) (rv_up.rf _ _) (by decide) (rv_ck_e g41_) ⟨by decide, rfl⟩ (Nat.le_of_ble_eq_true rfl) lVX12_171 rfl (by decide +kernel : decode cX12_coin 103 = .ok (.invokevirtual 171, 3)) ?_
                obtain ⟨x46_, g47_, h⟩ := rv_b_e h
                have m45_ := metJ6_bitCount_0f7a4 n S x43_ _ g47_
                refine re_cS (pc := 106) [.int x43_] m45_ (rv_okl.k ⟨rfl, rfl⟩) (rv_up.rf _ _) (by decide) (Nat.le_of_ble_eq_true rfl) lSX12_174 rfl (by decide +kernel : decode cX12_coin 106 = .ok (.invokestatic 174, 3)) ?_
                cases h
                exact re_iret (fun ty hty => by cases hty; rfl) (by decide +kernel : decode cX12_coin 109 = .ok (.ireturn, 1))
              · skip
                refine re_tabOut (pc := 28) (dflt := 82) 110 (by decide +kernel : decode cX12_coin 28 = .ok (.tableswitch 82 0 3 #[32, 45, 58, 70], 32)) (by have z0_ := lv_neT g9_ (a := 0) (by decide); have z1_ := lv_neT g18_ (a := 1) (by decide); have z2_ := lv_neT g27_ (a := 2) (by decide); have z3_ := lv_neT g37_ (a := 3) (by decide); omega) (by decide) ?_
                refine re_aloadn (pc := 110) 0 (by decide +kernel : decode cX12_coin 110 = .ok (.aload_n 0, 1)) rfl ?_
                obtain ⟨a48_, g49_, h⟩ := rv_b_e h
                refine re_gR (pc := 111) g49_ lfX12_19 rfl (by decide +kernel : decode cX12_coin 111 = .ok (.getfield 19, 3)) ?_
                refine re_iloadn (pc := 114) 1 (by decide +kernel : decode cX12_coin 114 = .ok (.iload_n 1, 1)) rfl ?_
                obtain ⟨u50_, g51_, h⟩ := rv_b_e h
                obtain ⟨x53_, g54_, h⟩ := rv_b_e h
                have m52_ := metX9_forgery n S a48_ x1 _ g54_
                refine re_cV (pc := 115) [.int x1] m52_ (rv_okl.k ⟨rfl, rfl⟩) (rv_up.rf _ _) (by decide) (rv_ck_e g51_) ⟨by decide, rfl⟩ (Nat.le_of_ble_eq_true rfl) lVX12_178 rfl (by decide +kernel : decode cX12_coin 115 = .ok (.invokevirtual 178, 3)) ?_
                cases h
                exact re_iret (fun ty hty => by cases hty; rfl) (by decide +kernel : decode cX12_coin 118 = .ok (.ireturn, 1))
      · refine re_icmp_le_f (pc := 14) 27 (by decide +kernel : decode cX12_coin 14 = .ok (.if_icmp .le 13, 3)) (by decide) g8_ ?_
        exact absurd h (by simp)
theorem metX12_coin (n : Nat) (S : rvS) (a0 : Nat) (x1 : Int32) (x2 : Int32) (r : Int32) (h : fnX12_coin n S a0 x1 x2 = some r) : rv_Met yX12_coin mX12_coin 4 [.ref a0, .int x1, .int x2] S (some (.int r)) S := rv_Met.of ⟨by decide +kernel, rfl, (fun z => by first | rfl | cases z), rfl⟩ (Nat.le_of_ble_eq_true rfl) rfl (eX12_coin_in n S a0 x1 x2 r h)
noncomputable def ftX12_coin (n : Nat) (S : rvS) (a0 : Nat) (x1 : Int32) (x2 : Int32) : Option Unit :=
  (rv_ck S 10 a0).bind fun u1_ =>
  (fnX12_isCoin n S a0 x1).bind fun x4_ =>
  if x4_ = 0 then (
    some ())
  else (
    if x2 < 0 then (
      some ())
    else (
      if x2 ≤ (4 : Int32) then (
        none)
      else (
        some ())))
set_option maxRecDepth 20000 in
set_option maxHeartbeats 4000000 in
theorem etX12_coin (n : Nat) (S : rvS) (a0 : Nat) (x1 : Int32) (x2 : Int32) (h : ftX12_coin n S a0 x1 x2 = some ()) : rv_Ev mX12_coin 4 0 [(0, .ref a0), (1, .int x1), (2, .int x2)] [] S (some (.retAddr 17)) S := by
  unfold ftX12_coin at h
  refine re_aloadn (pc := 0) 0 (by decide +kernel : decode cX12_coin 0 = .ok (.aload_n 0, 1)) rfl ?_
  refine re_iloadn (pc := 1) 1 (by decide +kernel : decode cX12_coin 1 = .ok (.iload_n 1, 1)) rfl ?_
  obtain ⟨u1_, g2_, h⟩ := rv_b_e h
  obtain ⟨x4_, g5_, h⟩ := rv_b_e h
  have m3_ := metX12_isCoin n S a0 x1 _ g5_
  refine re_cV (pc := 2) [.int x1] m3_ (rv_okl.k ⟨rfl, rfl⟩) (rv_up.rf _ _) (by decide) (rv_ck_e g2_) ⟨by decide, rfl⟩ (Nat.le_of_ble_eq_true rfl) lVX12_157 rfl (by decide +kernel : decode cX12_coin 2 = .ok (.invokevirtual 157, 3)) ?_
  rcases rv_if_e h with ⟨g6_, h⟩ | ⟨g6_, h⟩
  · refine re_if_eq_t (pc := 5) 17 (by decide +kernel : decode cX12_coin 5 = .ok (.ifCond .eq 12, 3)) (by decide) g6_ ?_
    exact re_thr
  · refine re_if_eq_f (pc := 5) 17 (by decide +kernel : decode cX12_coin 5 = .ok (.ifCond .eq 12, 3)) (by decide) g6_ ?_
    refine re_iloadn (pc := 8) 2 (by decide +kernel : decode cX12_coin 8 = .ok (.iload_n 2, 1)) rfl ?_
    rcases rv_if_e h with ⟨g7_, h⟩ | ⟨g7_, h⟩
    · refine re_if_lt_t (pc := 9) 17 (by decide +kernel : decode cX12_coin 9 = .ok (.ifCond .lt 8, 3)) (by decide) g7_ ?_
      exact re_thr
    · refine re_if_lt_f (pc := 9) 17 (by decide +kernel : decode cX12_coin 9 = .ok (.ifCond .lt 8, 3)) (by decide) g7_ ?_
      refine re_iloadn (pc := 12) 2 (by decide +kernel : decode cX12_coin 12 = .ok (.iload_n 2, 1)) rfl ?_
      refine re_iconst (pc := 13) (4 : Int32) (by decide +kernel : decode cX12_coin 13 = .ok (.iconst 4, 1)) (by decide) ?_
      rcases rv_if_e h with ⟨g8_, h⟩ | ⟨g8_, h⟩
      · refine re_icmp_le_t (pc := 14) 27 (by decide +kernel : decode cX12_coin 14 = .ok (.if_icmp .le 13, 3)) (by decide) g8_ ?_
        exact absurd h (by simp)
      · refine re_icmp_le_f (pc := 14) 27 (by decide +kernel : decode cX12_coin 14 = .ok (.if_icmp .le 13, 3)) (by decide) g8_ ?_
        exact re_thr
noncomputable def fnX12_rim (n : Nat) (S : rvS) (a0 : Nat) (x1 : Int32) (x2 : Int32) : Option Int32 :=
  (rv_ck S 10 a0).bind fun u1_ =>
  (fnX12_isCoin n S a0 x1).bind fun x4_ =>
  if x4_ = 0 then (
    some (-1 : Int32))
  else (
    (rv_gR S 10 a0 1).bind fun a7_ =>
    (rv_gR S 8 a7_ 1).bind fun a9_ =>
    (rv_ck S 5 a9_).bind fun u11_ =>
    (fnX6_nameAt n S a9_ x1 x2).bind fun x14_ =>
    some x14_)
set_option maxRecDepth 20000 in
set_option maxHeartbeats 4000000 in
theorem eX12_rim_in (n : Nat) (S : rvS) (a0 : Nat) (x1 : Int32) (x2 : Int32) (r : Int32) (h : fnX12_rim n S a0 x1 x2 = some r) : rv_Ev mX12_rim 2 0 [(0, .ref a0), (1, .int x1), (2, .int x2)] [] S (some (.int r)) S := by
  unfold fnX12_rim at h
  refine re_aloadn (pc := 0) 0 (by decide +kernel : decode cX12_rim 0 = .ok (.aload_n 0, 1)) rfl ?_
  refine re_iloadn (pc := 1) 1 (by decide +kernel : decode cX12_rim 1 = .ok (.iload_n 1, 1)) rfl ?_
  obtain ⟨u1_, g2_, h⟩ := rv_b_e h
  obtain ⟨x4_, g5_, h⟩ := rv_b_e h
  have m3_ := metX12_isCoin n S a0 x1 _ g5_
  refine re_cV (pc := 2) [.int x1] m3_ (rv_okl.k ⟨rfl, rfl⟩) (rv_up.rf _ _) (by decide) (rv_ck_e g2_) ⟨by decide, rfl⟩ (Nat.le_of_ble_eq_true rfl) lVX12_157 rfl (by decide +kernel : decode cX12_rim 2 = .ok (.invokevirtual 157, 3)) ?_
  rcases rv_if_e h with ⟨g6_, h⟩ | ⟨g6_, h⟩
  · refine re_if_eq_t (pc := 5) 23 (by decide +kernel : decode cX12_rim 5 = .ok (.ifCond .eq 18, 3)) (by decide) g6_ ?_
    refine re_iconst (pc := 23) (-1 : Int32) (by decide +kernel : decode cX12_rim 23 = .ok (.iconst (-1), 1)) (by decide) ?_
    cases h
    exact re_iret (fun ty hty => by cases hty; rfl) (by decide +kernel : decode cX12_rim 24 = .ok (.ireturn, 1))
  · refine re_if_eq_f (pc := 5) 23 (by decide +kernel : decode cX12_rim 5 = .ok (.ifCond .eq 18, 3)) (by decide) g6_ ?_
    refine re_aloadn (pc := 8) 0 (by decide +kernel : decode cX12_rim 8 = .ok (.aload_n 0, 1)) rfl ?_
    obtain ⟨a7_, g8_, h⟩ := rv_b_e h
    refine re_gR (pc := 9) g8_ lfX12_19 rfl (by decide +kernel : decode cX12_rim 9 = .ok (.getfield 19, 3)) ?_
    obtain ⟨a9_, g10_, h⟩ := rv_b_e h
    refine re_gR (pc := 12) g10_ lfX12_138 rfl (by decide +kernel : decode cX12_rim 12 = .ok (.getfield 138, 3)) ?_
    refine re_iloadn (pc := 15) 1 (by decide +kernel : decode cX12_rim 15 = .ok (.iload_n 1, 1)) rfl ?_
    refine re_iloadn (pc := 16) 2 (by decide +kernel : decode cX12_rim 16 = .ok (.iload_n 2, 1)) rfl ?_
    obtain ⟨u11_, g12_, h⟩ := rv_b_e h
    obtain ⟨x14_, g15_, h⟩ := rv_b_e h
    have m13_ := metX6_nameAt n S a9_ x1 x2 _ g15_
    refine re_cV (pc := 17) [.int x1, .int x2] m13_ (rv_okl.k ⟨rfl, rfl⟩) (rv_up.rf _ _) (by decide) (rv_ck_e g12_) ⟨by decide, rfl⟩ (Nat.le_of_ble_eq_true rfl) lVX12_181 rfl (by decide +kernel : decode cX12_rim 17 = .ok (.invokevirtual 181, 3)) ?_
    refine re_goto (pc := 20) 24 (by decide +kernel : decode cX12_rim 20 = .ok (.goto 4, 3)) (by decide) ?_
    cases h
    exact re_iret (fun ty hty => by cases hty; rfl) (by decide +kernel : decode cX12_rim 24 = .ok (.ireturn, 1))
theorem metX12_rim (n : Nat) (S : rvS) (a0 : Nat) (x1 : Int32) (x2 : Int32) (r : Int32) (h : fnX12_rim n S a0 x1 x2 = some r) : rv_Met yX12_rim mX12_rim 2 [.ref a0, .int x1, .int x2] S (some (.int r)) S := rv_Met.of ⟨by decide +kernel, rfl, (fun z => by first | rfl | cases z), rfl⟩ (Nat.le_of_ble_eq_true rfl) rfl (eX12_rim_in n S a0 x1 x2 r h)
noncomputable def fnX12_near (n : Nat) (S : rvS) (a0 : Nat) (x1 : Int32) (x2 : Int32) : Option Int32 :=
  (fnX1_isVillage n S x1).bind fun x2_ =>
  if x2_ = 0 then (
    some (-1 : Int32))
  else (
    (fnX1_isVillage n S x2).bind fun x6_ =>
    if x6_ = 0 then (
      some (-1 : Int32))
    else (
      (rv_gR S 10 a0 1).bind fun a9_ =>
      (rv_gR S 8 a9_ 0).bind fun a11_ =>
      (rv_ck S 0 a11_).bind fun u13_ =>
      (fnX1_areNear n S a11_ x1 x2).bind fun x16_ =>
      if x16_ = 0 then (
        some (0 : Int32))
      else (
        some (1 : Int32))))
set_option maxRecDepth 20000 in
set_option maxHeartbeats 4000000 in
theorem eX12_near_in (n : Nat) (S : rvS) (a0 : Nat) (x1 : Int32) (x2 : Int32) (r : Int32) (h : fnX12_near n S a0 x1 x2 = some r) : rv_Ev mX12_near 2 0 [(0, .ref a0), (1, .int x1), (2, .int x2)] [] S (some (.int r)) S := by
  unfold fnX12_near at h
  refine re_iloadn (pc := 0) 1 (by decide +kernel : decode cX12_near 0 = .ok (.iload_n 1, 1)) rfl ?_
  obtain ⟨x2_, g3_, h⟩ := rv_b_e h
  have m1_ := metX1_isVillage n S x1 _ g3_
  refine re_cS (pc := 1) [.int x1] m1_ (rv_okl.k ⟨rfl, rfl⟩) (rv_up.rf _ _) (by decide) (Nat.le_of_ble_eq_true rfl) lSX12_185 rfl (by decide +kernel : decode cX12_near 1 = .ok (.invokestatic 185, 3)) ?_
  rcases rv_if_e h with ⟨g4_, h⟩ | ⟨g4_, h⟩
  · refine re_if_eq_t (pc := 4) 14 (by decide +kernel : decode cX12_near 4 = .ok (.ifCond .eq 10, 3)) (by decide) g4_ ?_
    refine re_iconst (pc := 14) (-1 : Int32) (by decide +kernel : decode cX12_near 14 = .ok (.iconst (-1), 1)) (by decide) ?_
    cases h
    exact re_iret (fun ty hty => by cases hty; rfl) (by decide +kernel : decode cX12_near 15 = .ok (.ireturn, 1))
  · refine re_if_eq_f (pc := 4) 14 (by decide +kernel : decode cX12_near 4 = .ok (.ifCond .eq 10, 3)) (by decide) g4_ ?_
    refine re_iloadn (pc := 7) 2 (by decide +kernel : decode cX12_near 7 = .ok (.iload_n 2, 1)) rfl ?_
    obtain ⟨x6_, g7_, h⟩ := rv_b_e h
    have m5_ := metX1_isVillage n S x2 _ g7_
    refine re_cS (pc := 8) [.int x2] m5_ (rv_okl.k ⟨rfl, rfl⟩) (rv_up.rf _ _) (by decide) (Nat.le_of_ble_eq_true rfl) lSX12_185 rfl (by decide +kernel : decode cX12_near 8 = .ok (.invokestatic 185, 3)) ?_
    rcases rv_if_e h with ⟨g8_, h⟩ | ⟨g8_, h⟩
    · refine re_if_ne_f (pc := 11) 16 (by decide +kernel : decode cX12_near 11 = .ok (.ifCond .ne 5, 3)) (by decide) g8_ ?_
      refine re_iconst (pc := 14) (-1 : Int32) (by decide +kernel : decode cX12_near 14 = .ok (.iconst (-1), 1)) (by decide) ?_
      cases h
      exact re_iret (fun ty hty => by cases hty; rfl) (by decide +kernel : decode cX12_near 15 = .ok (.ireturn, 1))
    · refine re_if_ne_t (pc := 11) 16 (by decide +kernel : decode cX12_near 11 = .ok (.ifCond .ne 5, 3)) (by decide) g8_ ?_
      refine re_aloadn (pc := 16) 0 (by decide +kernel : decode cX12_near 16 = .ok (.aload_n 0, 1)) rfl ?_
      obtain ⟨a9_, g10_, h⟩ := rv_b_e h
      refine re_gR (pc := 17) g10_ lfX12_19 rfl (by decide +kernel : decode cX12_near 17 = .ok (.getfield 19, 3)) ?_
      obtain ⟨a11_, g12_, h⟩ := rv_b_e h
      refine re_gR (pc := 20) g12_ lfX12_115 rfl (by decide +kernel : decode cX12_near 20 = .ok (.getfield 115, 3)) ?_
      refine re_iloadn (pc := 23) 1 (by decide +kernel : decode cX12_near 23 = .ok (.iload_n 1, 1)) rfl ?_
      refine re_iloadn (pc := 24) 2 (by decide +kernel : decode cX12_near 24 = .ok (.iload_n 2, 1)) rfl ?_
      obtain ⟨u13_, g14_, h⟩ := rv_b_e h
      obtain ⟨x16_, g17_, h⟩ := rv_b_e h
      have m15_ := metX1_areNear n S a11_ x1 x2 _ g17_
      refine re_cV (pc := 25) [.int x1, .int x2] m15_ (rv_okl.k ⟨rfl, rfl⟩) (rv_up.rf _ _) (by decide) (rv_ck_e g14_) ⟨by decide, rfl⟩ (Nat.le_of_ble_eq_true rfl) lVX12_188 rfl (by decide +kernel : decode cX12_near 25 = .ok (.invokevirtual 188, 3)) ?_
      rcases rv_if_e h with ⟨g18_, h⟩ | ⟨g18_, h⟩
      · refine re_if_eq_t (pc := 28) 35 (by decide +kernel : decode cX12_near 28 = .ok (.ifCond .eq 7, 3)) (by decide) g18_ ?_
        refine re_iconst (pc := 35) (0 : Int32) (by decide +kernel : decode cX12_near 35 = .ok (.iconst 0, 1)) (by decide) ?_
        cases h
        exact re_iret (fun ty hty => by cases hty; rfl) (by decide +kernel : decode cX12_near 36 = .ok (.ireturn, 1))
      · refine re_if_eq_f (pc := 28) 35 (by decide +kernel : decode cX12_near 28 = .ok (.ifCond .eq 7, 3)) (by decide) g18_ ?_
        refine re_iconst (pc := 31) (1 : Int32) (by decide +kernel : decode cX12_near 31 = .ok (.iconst 1, 1)) (by decide) ?_
        refine re_goto (pc := 32) 36 (by decide +kernel : decode cX12_near 32 = .ok (.goto 4, 3)) (by decide) ?_
        cases h
        exact re_iret (fun ty hty => by cases hty; rfl) (by decide +kernel : decode cX12_near 36 = .ok (.ireturn, 1))
theorem metX12_near (n : Nat) (S : rvS) (a0 : Nat) (x1 : Int32) (x2 : Int32) (r : Int32) (h : fnX12_near n S a0 x1 x2 = some r) : rv_Met yX12_near mX12_near 2 [.ref a0, .int x1, .int x2] S (some (.int r)) S := rv_Met.of ⟨by decide +kernel, rfl, (fun z => by first | rfl | cases z), rfl⟩ (Nat.le_of_ble_eq_true rfl) rfl (eX12_near_in n S a0 x1 x2 r h)
noncomputable def fnX12_road (n : Nat) (S : rvS) (a0 : Nat) (x1 : Int32) (x2 : Int32) : Option (Int32 × rvS) :=
  (fnX1_isVillage n S x1).bind fun x2_ =>
  if x2_ = 0 then (
    some ((0 : Int32), S))
  else (
    (fnX1_isVillage n S x2).bind fun x6_ =>
    if x6_ = 0 then (
      some ((0 : Int32), S))
    else (
      (rv_gR S 10 a0 1).bind fun a9_ =>
      (rv_gR S 8 a9_ 0).bind fun a11_ =>
      (rv_ck S 0 a11_).bind fun u13_ =>
      (fnX1_areNear n S a11_ x1 x2).bind fun x16_ =>
      if x16_ = 0 then (
        (rv_gR S 10 a0 1).bind fun a19_ =>
        (rv_gR S 8 a19_ 0).bind fun a21_ =>
        (rv_ck S 0 a21_).bind fun u23_ =>
        (fnX1_join n S a21_ x1 x2).bind fun S26_ =>
        some ((1 : Int32), S26_))
      else (
        some ((0 : Int32), S))))
set_option maxRecDepth 20000 in
set_option maxHeartbeats 4000000 in
theorem eX12_road_in (n : Nat) (S : rvS) (a0 : Nat) (x1 : Int32) (x2 : Int32) (r : Int32) (S' : rvS) (h : fnX12_road n S a0 x1 x2 = some (r, S')) : rv_Ev mX12_road 4 0 [(0, .ref a0), (1, .int x1), (2, .int x2)] [] S (some (.int r)) S' := by
  unfold fnX12_road at h
  refine re_iloadn (pc := 0) 1 (by decide +kernel : decode cX12_road 0 = .ok (.iload_n 1, 1)) rfl ?_
  obtain ⟨x2_, g3_, h⟩ := rv_b_e h
  have m1_ := metX1_isVillage n S x1 _ g3_
  refine re_cS (pc := 1) [.int x1] m1_ (rv_okl.k ⟨rfl, rfl⟩) (rv_up.rf _ _) (by decide) (Nat.le_of_ble_eq_true rfl) lSX12_185 rfl (by decide +kernel : decode cX12_road 1 = .ok (.invokestatic 185, 3)) ?_
  rcases rv_if_e h with ⟨g4_, h⟩ | ⟨g4_, h⟩
  · refine re_if_eq_t (pc := 4) 29 (by decide +kernel : decode cX12_road 4 = .ok (.ifCond .eq 25, 3)) (by decide) g4_ ?_
    refine re_iconst (pc := 29) (0 : Int32) (by decide +kernel : decode cX12_road 29 = .ok (.iconst 0, 1)) (by decide) ?_
    cases h
    exact re_iret (fun ty hty => by cases hty; rfl) (by decide +kernel : decode cX12_road 30 = .ok (.ireturn, 1))
  · refine re_if_eq_f (pc := 4) 29 (by decide +kernel : decode cX12_road 4 = .ok (.ifCond .eq 25, 3)) (by decide) g4_ ?_
    refine re_iloadn (pc := 7) 2 (by decide +kernel : decode cX12_road 7 = .ok (.iload_n 2, 1)) rfl ?_
    obtain ⟨x6_, g7_, h⟩ := rv_b_e h
    have m5_ := metX1_isVillage n S x2 _ g7_
    refine re_cS (pc := 8) [.int x2] m5_ (rv_okl.k ⟨rfl, rfl⟩) (rv_up.rf _ _) (by decide) (Nat.le_of_ble_eq_true rfl) lSX12_185 rfl (by decide +kernel : decode cX12_road 8 = .ok (.invokestatic 185, 3)) ?_
    rcases rv_if_e h with ⟨g8_, h⟩ | ⟨g8_, h⟩
    · refine re_if_eq_t (pc := 11) 29 (by decide +kernel : decode cX12_road 11 = .ok (.ifCond .eq 18, 3)) (by decide) g8_ ?_
      refine re_iconst (pc := 29) (0 : Int32) (by decide +kernel : decode cX12_road 29 = .ok (.iconst 0, 1)) (by decide) ?_
      cases h
      exact re_iret (fun ty hty => by cases hty; rfl) (by decide +kernel : decode cX12_road 30 = .ok (.ireturn, 1))
    · refine re_if_eq_f (pc := 11) 29 (by decide +kernel : decode cX12_road 11 = .ok (.ifCond .eq 18, 3)) (by decide) g8_ ?_
      refine re_aloadn (pc := 14) 0 (by decide +kernel : decode cX12_road 14 = .ok (.aload_n 0, 1)) rfl ?_
      obtain ⟨a9_, g10_, h⟩ := rv_b_e h
      refine re_gR (pc := 15) g10_ lfX12_19 rfl (by decide +kernel : decode cX12_road 15 = .ok (.getfield 19, 3)) ?_
      obtain ⟨a11_, g12_, h⟩ := rv_b_e h
      refine re_gR (pc := 18) g12_ lfX12_115 rfl (by decide +kernel : decode cX12_road 18 = .ok (.getfield 115, 3)) ?_
      refine re_iloadn (pc := 21) 1 (by decide +kernel : decode cX12_road 21 = .ok (.iload_n 1, 1)) rfl ?_
      refine re_iloadn (pc := 22) 2 (by decide +kernel : decode cX12_road 22 = .ok (.iload_n 2, 1)) rfl ?_
      obtain ⟨u13_, g14_, h⟩ := rv_b_e h
      obtain ⟨x16_, g17_, h⟩ := rv_b_e h
      have m15_ := metX1_areNear n S a11_ x1 x2 _ g17_
      refine re_cV (pc := 23) [.int x1, .int x2] m15_ (rv_okl.k ⟨rfl, rfl⟩) (rv_up.rf _ _) (by decide) (rv_ck_e g14_) ⟨by decide, rfl⟩ (Nat.le_of_ble_eq_true rfl) lVX12_188 rfl (by decide +kernel : decode cX12_road 23 = .ok (.invokevirtual 188, 3)) ?_
      rcases rv_if_e h with ⟨g18_, h⟩ | ⟨g18_, h⟩
      · refine re_if_eq_t (pc := 26) 31 (by decide +kernel : decode cX12_road 26 = .ok (.ifCond .eq 5, 3)) (by decide) g18_ ?_
        refine re_aloadn (pc := 31) 0 (by decide +kernel : decode cX12_road 31 = .ok (.aload_n 0, 1)) rfl ?_
        obtain ⟨a19_, g20_, h⟩ := rv_b_e h
        refine re_gR (pc := 32) g20_ lfX12_19 rfl (by decide +kernel : decode cX12_road 32 = .ok (.getfield 19, 3)) ?_
        obtain ⟨a21_, g22_, h⟩ := rv_b_e h
        refine re_gR (pc := 35) g22_ lfX12_115 rfl (by decide +kernel : decode cX12_road 35 = .ok (.getfield 115, 3)) ?_
        refine re_iloadn (pc := 38) 1 (by decide +kernel : decode cX12_road 38 = .ok (.iload_n 1, 1)) rfl ?_
        refine re_iloadn (pc := 39) 2 (by decide +kernel : decode cX12_road 39 = .ok (.iload_n 2, 1)) rfl ?_
        obtain ⟨u23_, g24_, h⟩ := rv_b_e h
        obtain ⟨S26_, g27_, h⟩ := rv_b_e h
        have m25_ := metX1_join n S a21_ x1 x2 _ g27_
        have z28_ : rv_same S S26_ := m25_.sh rfl
        refine re_cV (pc := 40) [.int x1, .int x2] m25_ (rv_okl.k z28_) (rv_up.sh z28_) (by decide) (rv_ck_e g24_) ⟨by decide, rfl⟩ (Nat.le_of_ble_eq_true rfl) lVX12_192 rfl (by decide +kernel : decode cX12_road 40 = .ok (.invokevirtual 192, 3)) ?_
        refine re_iconst (pc := 43) (1 : Int32) (by decide +kernel : decode cX12_road 43 = .ok (.iconst 1, 1)) (by decide) ?_
        cases h
        exact re_iret (fun ty hty => by cases hty; rfl) (by decide +kernel : decode cX12_road 44 = .ok (.ireturn, 1))
      · refine re_if_eq_f (pc := 26) 31 (by decide +kernel : decode cX12_road 26 = .ok (.ifCond .eq 5, 3)) (by decide) g18_ ?_
        refine re_iconst (pc := 29) (0 : Int32) (by decide +kernel : decode cX12_road 29 = .ok (.iconst 0, 1)) (by decide) ?_
        cases h
        exact re_iret (fun ty hty => by cases hty; rfl) (by decide +kernel : decode cX12_road 30 = .ok (.ireturn, 1))
theorem metX12_road (n : Nat) (S : rvS) (a0 : Nat) (x1 : Int32) (x2 : Int32) (r : Int32) (S' : rvS) (h : fnX12_road n S a0 x1 x2 = some (r, S')) : rv_Met yX12_road mX12_road 4 [.ref a0, .int x1, .int x2] S (some (.int r)) S' := rv_Met.of ⟨by decide +kernel, rfl, (fun z => by first | rfl | cases z), rfl⟩ (Nat.le_of_ble_eq_true rfl) rfl (eX12_road_in n S a0 x1 x2 r S' h)
noncomputable def fnX12_why (n : Nat) (S : rvS) (a0 : Nat) (x1 : Int32) (x2 : Int32) : Option Int32 :=
  (rv_ck S 10 a0).bind fun u1_ =>
  (fnX12_isCoin n S a0 x1).bind fun x4_ =>
  if x4_ = 0 then (
    some (-1 : Int32))
  else (
    (rv_ck S 10 a0).bind fun u7_ =>
    (fnX12_isWho n S a0 x2).bind fun x10_ =>
    if x10_ = 0 then (
      some (-1 : Int32))
    else (
      (rv_gR S 10 a0 1).bind fun a13_ =>
      (rv_ck S 8 a13_).bind fun u15_ =>
      (fnX9_whyNot n S a13_ x1 x2).bind fun x18_ =>
      some x18_))
set_option maxRecDepth 20000 in
set_option maxHeartbeats 4000000 in
theorem eX12_why_in (n : Nat) (S : rvS) (a0 : Nat) (x1 : Int32) (x2 : Int32) (r : Int32) (h : fnX12_why n S a0 x1 x2 = some r) : rv_Ev mX12_why 4 0 [(0, .ref a0), (1, .int x1), (2, .int x2)] [] S (some (.int r)) S := by
  unfold fnX12_why at h
  refine re_aloadn (pc := 0) 0 (by decide +kernel : decode cX12_why 0 = .ok (.aload_n 0, 1)) rfl ?_
  refine re_iloadn (pc := 1) 1 (by decide +kernel : decode cX12_why 1 = .ok (.iload_n 1, 1)) rfl ?_
  obtain ⟨u1_, g2_, h⟩ := rv_b_e h
  obtain ⟨x4_, g5_, h⟩ := rv_b_e h
  have m3_ := metX12_isCoin n S a0 x1 _ g5_
  refine re_cV (pc := 2) [.int x1] m3_ (rv_okl.k ⟨rfl, rfl⟩) (rv_up.rf _ _) (by decide) (rv_ck_e g2_) ⟨by decide, rfl⟩ (Nat.le_of_ble_eq_true rfl) lVX12_157 rfl (by decide +kernel : decode cX12_why 2 = .ok (.invokevirtual 157, 3)) ?_
  rcases rv_if_e h with ⟨g6_, h⟩ | ⟨g6_, h⟩
  · refine re_if_eq_t (pc := 5) 28 (by decide +kernel : decode cX12_why 5 = .ok (.ifCond .eq 23, 3)) (by decide) g6_ ?_
    refine re_iconst (pc := 28) (-1 : Int32) (by decide +kernel : decode cX12_why 28 = .ok (.iconst (-1), 1)) (by decide) ?_
    cases h
    exact re_iret (fun ty hty => by cases hty; rfl) (by decide +kernel : decode cX12_why 29 = .ok (.ireturn, 1))
  · refine re_if_eq_f (pc := 5) 28 (by decide +kernel : decode cX12_why 5 = .ok (.ifCond .eq 23, 3)) (by decide) g6_ ?_
    refine re_aloadn (pc := 8) 0 (by decide +kernel : decode cX12_why 8 = .ok (.aload_n 0, 1)) rfl ?_
    refine re_iloadn (pc := 9) 2 (by decide +kernel : decode cX12_why 9 = .ok (.iload_n 2, 1)) rfl ?_
    obtain ⟨u7_, g8_, h⟩ := rv_b_e h
    obtain ⟨x10_, g11_, h⟩ := rv_b_e h
    have m9_ := metX12_isWho n S a0 x2 _ g11_
    refine re_cV (pc := 10) [.int x2] m9_ (rv_okl.k ⟨rfl, rfl⟩) (rv_up.rf _ _) (by decide) (rv_ck_e g8_) ⟨by decide, rfl⟩ (Nat.le_of_ble_eq_true rfl) lVX12_104 rfl (by decide +kernel : decode cX12_why 10 = .ok (.invokevirtual 104, 3)) ?_
    rcases rv_if_e h with ⟨g12_, h⟩ | ⟨g12_, h⟩
    · refine re_if_eq_t (pc := 13) 28 (by decide +kernel : decode cX12_why 13 = .ok (.ifCond .eq 15, 3)) (by decide) g12_ ?_
      refine re_iconst (pc := 28) (-1 : Int32) (by decide +kernel : decode cX12_why 28 = .ok (.iconst (-1), 1)) (by decide) ?_
      cases h
      exact re_iret (fun ty hty => by cases hty; rfl) (by decide +kernel : decode cX12_why 29 = .ok (.ireturn, 1))
    · refine re_if_eq_f (pc := 13) 28 (by decide +kernel : decode cX12_why 13 = .ok (.ifCond .eq 15, 3)) (by decide) g12_ ?_
      refine re_aloadn (pc := 16) 0 (by decide +kernel : decode cX12_why 16 = .ok (.aload_n 0, 1)) rfl ?_
      obtain ⟨a13_, g14_, h⟩ := rv_b_e h
      refine re_gR (pc := 17) g14_ lfX12_19 rfl (by decide +kernel : decode cX12_why 17 = .ok (.getfield 19, 3)) ?_
      refine re_iloadn (pc := 20) 1 (by decide +kernel : decode cX12_why 20 = .ok (.iload_n 1, 1)) rfl ?_
      refine re_iloadn (pc := 21) 2 (by decide +kernel : decode cX12_why 21 = .ok (.iload_n 2, 1)) rfl ?_
      obtain ⟨u15_, g16_, h⟩ := rv_b_e h
      obtain ⟨x18_, g19_, h⟩ := rv_b_e h
      have m17_ := metX9_whyNot n S a13_ x1 x2 _ g19_
      refine re_cV (pc := 22) [.int x1, .int x2] m17_ (rv_okl.k ⟨rfl, rfl⟩) (rv_up.rf _ _) (by decide) (rv_ck_e g16_) ⟨by decide, rfl⟩ (Nat.le_of_ble_eq_true rfl) lVX12_196 rfl (by decide +kernel : decode cX12_why 22 = .ok (.invokevirtual 196, 3)) ?_
      refine re_goto (pc := 25) 29 (by decide +kernel : decode cX12_why 25 = .ok (.goto 4, 3)) (by decide) ?_
      cases h
      exact re_iret (fun ty hty => by cases hty; rfl) (by decide +kernel : decode cX12_why 29 = .ok (.ireturn, 1))
theorem metX12_why (n : Nat) (S : rvS) (a0 : Nat) (x1 : Int32) (x2 : Int32) (r : Int32) (h : fnX12_why n S a0 x1 x2 = some r) : rv_Met yX12_why mX12_why 4 [.ref a0, .int x1, .int x2] S (some (.int r)) S := rv_Met.of ⟨by decide +kernel, rfl, (fun z => by first | rfl | cases z), rfl⟩ (Nat.le_of_ble_eq_true rfl) rfl (eX12_why_in n S a0 x1 x2 r h)
noncomputable def cX12_pay_29 (n : Nat) (S : rvS) (a0 : Nat) (x1 : Int32) (x2 : Int32) (t0 : Int32) : Option (Int32 × rvS) :=
  if t0 = 0 then (
    (rv_gR S 10 a0 1).bind fun a2_ =>
    (rv_gR S 8 a2_ 1).bind fun a4_ =>
    (rv_ck S 5 a4_).bind fun u6_ =>
    (fnX6_move n S a4_ x1 x2).bind fun S9_ =>
    some (t0, S9_))
  else (
    some (t0, S))
set_option maxRecDepth 20000 in
set_option maxHeartbeats 4000000 in
theorem eX12_pay_29 (n : Nat) (S : rvS) (a0 : Nat) (x1 : Int32) (x2 : Int32) (t0 : Int32) (r : Int32) (S' : rvS) (h : cX12_pay_29 n S a0 x1 x2 t0 = some (r, S')) : rv_Ev mX12_pay 4 29 [(0, .ref a0), (1, .int x1), (2, .int x2)] [.int t0] S (some (.int r)) S' := by
  unfold cX12_pay_29 at h
  refine re_istoren (pc := 29) (lv1 := [(3, .int t0), (0, .ref a0), (1, .int x1), (2, .int x2)]) (by decide +kernel : decode cX12_pay 29 = .ok (.istore_n 3, 1)) rfl (by decide) rfl ?_
  refine re_iloadn (pc := 30) 0 (by decide +kernel : decode cX12_pay 30 = .ok (.iload_n 3, 1)) rfl ?_
  rcases rv_if_e h with ⟨g1_, h⟩ | ⟨g1_, h⟩
  · refine re_if_ne_f (pc := 31) 46 (by decide +kernel : decode cX12_pay 31 = .ok (.ifCond .ne 15, 3)) (by decide) g1_ ?_
    refine re_aloadn (pc := 34) 1 (by decide +kernel : decode cX12_pay 34 = .ok (.aload_n 0, 1)) rfl ?_
    obtain ⟨a2_, g3_, h⟩ := rv_b_e h
    refine re_gR (pc := 35) g3_ lfX12_19 rfl (by decide +kernel : decode cX12_pay 35 = .ok (.getfield 19, 3)) ?_
    obtain ⟨a4_, g5_, h⟩ := rv_b_e h
    refine re_gR (pc := 38) g5_ lfX12_138 rfl (by decide +kernel : decode cX12_pay 38 = .ok (.getfield 138, 3)) ?_
    refine re_iloadn (pc := 41) 2 (by decide +kernel : decode cX12_pay 41 = .ok (.iload_n 1, 1)) rfl ?_
    refine re_iloadn (pc := 42) 3 (by decide +kernel : decode cX12_pay 42 = .ok (.iload_n 2, 1)) rfl ?_
    obtain ⟨u6_, g7_, h⟩ := rv_b_e h
    obtain ⟨S9_, g10_, h⟩ := rv_b_e h
    have m8_ := metX6_move n S a4_ x1 x2 _ g10_
    have z11_ : rv_same S S9_ := m8_.sh rfl
    refine re_cV (pc := 43) [.int x1, .int x2] m8_ (rv_okl.k z11_) (rv_up.sh z11_) (by decide) (rv_ck_e g7_) ⟨by decide, rfl⟩ (Nat.le_of_ble_eq_true rfl) lVX12_199 rfl (by decide +kernel : decode cX12_pay 43 = .ok (.invokevirtual 199, 3)) ?_
    refine re_iloadn (pc := 46) 0 (by decide +kernel : decode cX12_pay 46 = .ok (.iload_n 3, 1)) rfl ?_
    cases h
    exact re_iret (fun ty hty => by cases hty; rfl) (by decide +kernel : decode cX12_pay 47 = .ok (.ireturn, 1))
  · refine re_if_ne_t (pc := 31) 46 (by decide +kernel : decode cX12_pay 31 = .ok (.ifCond .ne 15, 3)) (by decide) g1_ ?_
    refine re_iloadn (pc := 46) 0 (by decide +kernel : decode cX12_pay 46 = .ok (.iload_n 3, 1)) rfl ?_
    cases h
    exact re_iret (fun ty hty => by cases hty; rfl) (by decide +kernel : decode cX12_pay 47 = .ok (.ireturn, 1))
noncomputable def cX12_pay_28 (n : Nat) (S : rvS) (a0 : Nat) (x1 : Int32) (x2 : Int32) : Option (Int32 × rvS) :=
  cX12_pay_29 n S a0 x1 x2 (-1 : Int32)
set_option maxRecDepth 20000 in
set_option maxHeartbeats 4000000 in
theorem eX12_pay_28 (n : Nat) (S : rvS) (a0 : Nat) (x1 : Int32) (x2 : Int32) (r : Int32) (S' : rvS) (h : cX12_pay_28 n S a0 x1 x2 = some (r, S')) : rv_Ev mX12_pay 4 28 [(0, .ref a0), (1, .int x1), (2, .int x2)] [] S (some (.int r)) S' := by
  unfold cX12_pay_28 at h
  refine re_iconst (pc := 28) (-1 : Int32) (by decide +kernel : decode cX12_pay 28 = .ok (.iconst (-1), 1)) (by decide) ?_
  exact eX12_pay_29 n S a0 x1 x2 (-1 : Int32) _ _ h
noncomputable def fnX12_pay (n : Nat) (S : rvS) (a0 : Nat) (x1 : Int32) (x2 : Int32) : Option (Int32 × rvS) :=
  (rv_ck S 10 a0).bind fun u1_ =>
  (fnX12_isCoin n S a0 x1).bind fun x4_ =>
  if x4_ = 0 then (
    cX12_pay_28 n S a0 x1 x2)
  else (
    (rv_ck S 10 a0).bind fun u7_ =>
    (fnX12_isWho n S a0 x2).bind fun x10_ =>
    if x10_ = 0 then (
      cX12_pay_28 n S a0 x1 x2)
    else (
      (rv_gR S 10 a0 1).bind fun a13_ =>
      (rv_ck S 8 a13_).bind fun u15_ =>
      (fnX9_whyNot n S a13_ x1 x2).bind fun x18_ =>
      cX12_pay_29 n S a0 x1 x2 x18_))
set_option maxRecDepth 20000 in
set_option maxHeartbeats 4000000 in
theorem eX12_pay_in (n : Nat) (S : rvS) (a0 : Nat) (x1 : Int32) (x2 : Int32) (r : Int32) (S' : rvS) (h : fnX12_pay n S a0 x1 x2 = some (r, S')) : rv_Ev mX12_pay 4 0 [(0, .ref a0), (1, .int x1), (2, .int x2)] [] S (some (.int r)) S' := by
  unfold fnX12_pay at h
  refine re_aloadn (pc := 0) 0 (by decide +kernel : decode cX12_pay 0 = .ok (.aload_n 0, 1)) rfl ?_
  refine re_iloadn (pc := 1) 1 (by decide +kernel : decode cX12_pay 1 = .ok (.iload_n 1, 1)) rfl ?_
  obtain ⟨u1_, g2_, h⟩ := rv_b_e h
  obtain ⟨x4_, g5_, h⟩ := rv_b_e h
  have m3_ := metX12_isCoin n S a0 x1 _ g5_
  refine re_cV (pc := 2) [.int x1] m3_ (rv_okl.k ⟨rfl, rfl⟩) (rv_up.rf _ _) (by decide) (rv_ck_e g2_) ⟨by decide, rfl⟩ (Nat.le_of_ble_eq_true rfl) lVX12_157 rfl (by decide +kernel : decode cX12_pay 2 = .ok (.invokevirtual 157, 3)) ?_
  rcases rv_if_e h with ⟨g6_, h⟩ | ⟨g6_, h⟩
  · refine re_if_eq_t (pc := 5) 28 (by decide +kernel : decode cX12_pay 5 = .ok (.ifCond .eq 23, 3)) (by decide) g6_ ?_
    exact eX12_pay_28 n S a0 x1 x2 _ _ h
  · refine re_if_eq_f (pc := 5) 28 (by decide +kernel : decode cX12_pay 5 = .ok (.ifCond .eq 23, 3)) (by decide) g6_ ?_
    refine re_aloadn (pc := 8) 0 (by decide +kernel : decode cX12_pay 8 = .ok (.aload_n 0, 1)) rfl ?_
    refine re_iloadn (pc := 9) 2 (by decide +kernel : decode cX12_pay 9 = .ok (.iload_n 2, 1)) rfl ?_
    obtain ⟨u7_, g8_, h⟩ := rv_b_e h
    obtain ⟨x10_, g11_, h⟩ := rv_b_e h
    have m9_ := metX12_isWho n S a0 x2 _ g11_
    refine re_cV (pc := 10) [.int x2] m9_ (rv_okl.k ⟨rfl, rfl⟩) (rv_up.rf _ _) (by decide) (rv_ck_e g8_) ⟨by decide, rfl⟩ (Nat.le_of_ble_eq_true rfl) lVX12_104 rfl (by decide +kernel : decode cX12_pay 10 = .ok (.invokevirtual 104, 3)) ?_
    rcases rv_if_e h with ⟨g12_, h⟩ | ⟨g12_, h⟩
    · refine re_if_eq_t (pc := 13) 28 (by decide +kernel : decode cX12_pay 13 = .ok (.ifCond .eq 15, 3)) (by decide) g12_ ?_
      exact eX12_pay_28 n S a0 x1 x2 _ _ h
    · refine re_if_eq_f (pc := 13) 28 (by decide +kernel : decode cX12_pay 13 = .ok (.ifCond .eq 15, 3)) (by decide) g12_ ?_
      refine re_aloadn (pc := 16) 0 (by decide +kernel : decode cX12_pay 16 = .ok (.aload_n 0, 1)) rfl ?_
      obtain ⟨a13_, g14_, h⟩ := rv_b_e h
      refine re_gR (pc := 17) g14_ lfX12_19 rfl (by decide +kernel : decode cX12_pay 17 = .ok (.getfield 19, 3)) ?_
      refine re_iloadn (pc := 20) 1 (by decide +kernel : decode cX12_pay 20 = .ok (.iload_n 1, 1)) rfl ?_
      refine re_iloadn (pc := 21) 2 (by decide +kernel : decode cX12_pay 21 = .ok (.iload_n 2, 1)) rfl ?_
      obtain ⟨u15_, g16_, h⟩ := rv_b_e h
      obtain ⟨x18_, g19_, h⟩ := rv_b_e h
      have m17_ := metX9_whyNot n S a13_ x1 x2 _ g19_
      refine re_cV (pc := 22) [.int x1, .int x2] m17_ (rv_okl.k ⟨rfl, rfl⟩) (rv_up.rf _ _) (by decide) (rv_ck_e g16_) ⟨by decide, rfl⟩ (Nat.le_of_ble_eq_true rfl) lVX12_196 rfl (by decide +kernel : decode cX12_pay 22 = .ok (.invokevirtual 196, 3)) ?_
      refine re_goto (pc := 25) 29 (by decide +kernel : decode cX12_pay 25 = .ok (.goto 4, 3)) (by decide) ?_
      exact eX12_pay_29 n S a0 x1 x2 x18_ _ _ h
theorem metX12_pay (n : Nat) (S : rvS) (a0 : Nat) (x1 : Int32) (x2 : Int32) (r : Int32) (S' : rvS) (h : fnX12_pay n S a0 x1 x2 = some (r, S')) : rv_Met yX12_pay mX12_pay 4 [.ref a0, .int x1, .int x2] S (some (.int r)) S' := rv_Met.of ⟨by decide +kernel, rfl, (fun z => by first | rfl | cases z), rfl⟩ (Nat.le_of_ble_eq_true rfl) rfl (eX12_pay_in n S a0 x1 x2 r S' h)
noncomputable def fnX12_whom (n : Nat) (S : rvS) (a0 : Nat) (x1 : Int32) : Option Int32 :=
  (rv_ck S 10 a0).bind fun u1_ =>
  (fnX12_isCoin n S a0 x1).bind fun x4_ =>
  if x4_ = 0 then (
    some (-1 : Int32))
  else (
    (rv_gR S 10 a0 1).bind fun a7_ =>
    (rv_ck S 8 a7_).bind fun u9_ =>
    (fnX9_goers n S a7_ x1).bind fun x12_ =>
    some x12_)
set_option maxRecDepth 20000 in
set_option maxHeartbeats 4000000 in
theorem eX12_whom_in (n : Nat) (S : rvS) (a0 : Nat) (x1 : Int32) (r : Int32) (h : fnX12_whom n S a0 x1 = some r) : rv_Ev mX12_whom 3 0 [(0, .ref a0), (1, .int x1)] [] S (some (.int r)) S := by
  unfold fnX12_whom at h
  refine re_aloadn (pc := 0) 0 (by decide +kernel : decode cX12_whom 0 = .ok (.aload_n 0, 1)) rfl ?_
  refine re_iloadn (pc := 1) 1 (by decide +kernel : decode cX12_whom 1 = .ok (.iload_n 1, 1)) rfl ?_
  obtain ⟨u1_, g2_, h⟩ := rv_b_e h
  obtain ⟨x4_, g5_, h⟩ := rv_b_e h
  have m3_ := metX12_isCoin n S a0 x1 _ g5_
  refine re_cV (pc := 2) [.int x1] m3_ (rv_okl.k ⟨rfl, rfl⟩) (rv_up.rf _ _) (by decide) (rv_ck_e g2_) ⟨by decide, rfl⟩ (Nat.le_of_ble_eq_true rfl) lVX12_157 rfl (by decide +kernel : decode cX12_whom 2 = .ok (.invokevirtual 157, 3)) ?_
  rcases rv_if_e h with ⟨g6_, h⟩ | ⟨g6_, h⟩
  · refine re_if_eq_t (pc := 5) 19 (by decide +kernel : decode cX12_whom 5 = .ok (.ifCond .eq 14, 3)) (by decide) g6_ ?_
    refine re_iconst (pc := 19) (-1 : Int32) (by decide +kernel : decode cX12_whom 19 = .ok (.iconst (-1), 1)) (by decide) ?_
    cases h
    exact re_iret (fun ty hty => by cases hty; rfl) (by decide +kernel : decode cX12_whom 20 = .ok (.ireturn, 1))
  · refine re_if_eq_f (pc := 5) 19 (by decide +kernel : decode cX12_whom 5 = .ok (.ifCond .eq 14, 3)) (by decide) g6_ ?_
    refine re_aloadn (pc := 8) 0 (by decide +kernel : decode cX12_whom 8 = .ok (.aload_n 0, 1)) rfl ?_
    obtain ⟨a7_, g8_, h⟩ := rv_b_e h
    refine re_gR (pc := 9) g8_ lfX12_19 rfl (by decide +kernel : decode cX12_whom 9 = .ok (.getfield 19, 3)) ?_
    refine re_iloadn (pc := 12) 1 (by decide +kernel : decode cX12_whom 12 = .ok (.iload_n 1, 1)) rfl ?_
    obtain ⟨u9_, g10_, h⟩ := rv_b_e h
    obtain ⟨x12_, g13_, h⟩ := rv_b_e h
    have m11_ := metX9_goers n S a7_ x1 _ g13_
    refine re_cV (pc := 13) [.int x1] m11_ (rv_okl.k ⟨rfl, rfl⟩) (rv_up.rf _ _) (by decide) (rv_ck_e g10_) ⟨by decide, rfl⟩ (Nat.le_of_ble_eq_true rfl) lVX12_171 rfl (by decide +kernel : decode cX12_whom 13 = .ok (.invokevirtual 171, 3)) ?_
    refine re_goto (pc := 16) 20 (by decide +kernel : decode cX12_whom 16 = .ok (.goto 4, 3)) (by decide) ?_
    cases h
    exact re_iret (fun ty hty => by cases hty; rfl) (by decide +kernel : decode cX12_whom 20 = .ok (.ireturn, 1))
theorem metX12_whom (n : Nat) (S : rvS) (a0 : Nat) (x1 : Int32) (r : Int32) (h : fnX12_whom n S a0 x1 = some r) : rv_Met yX12_whom mX12_whom 3 [.ref a0, .int x1] S (some (.int r)) S := rv_Met.of ⟨by decide +kernel, rfl, (fun z => by first | rfl | cases z), rfl⟩ (Nat.le_of_ble_eq_true rfl) rfl (eX12_whom_in n S a0 x1 r h)
noncomputable def fnX12_told (n : Nat) (S : rvS) (a0 : Nat) (x1 : Int32) : Option (Int32 × rvS) :=
  if x1 < 0 then (
    some (x1, S))
  else (
    (rv_gR S 10 a0 5).bind fun a2_ =>
    (rv_gL S 4 a2_ 2).bind fun x4_ =>
    (rv_pL S 10 a0 12 x4_).bind fun S6_ =>
    (rv_gR S6_ 10 a0 1).bind fun a8_ =>
    (rv_gR S6_ 8 a8_ 1).bind fun a10_ =>
    (rv_gI S6_ 5 a10_ 0).bind fun x12_ =>
    (rv_pI S6_ 10 a0 13 x12_).bind fun S14_ =>
    some (x1, S14_))
set_option maxRecDepth 20000 in
set_option maxHeartbeats 4000000 in
theorem eX12_told_in (n : Nat) (S : rvS) (a0 : Nat) (x1 : Int32) (r : Int32) (S' : rvS) (h : fnX12_told n S a0 x1 = some (r, S')) : rv_Ev mX12_told 0 0 [(0, .ref a0), (1, .int x1)] [] S (some (.int r)) S' := by
  unfold fnX12_told at h
  refine re_iloadn (pc := 0) 1 (by decide +kernel : decode cX12_told 0 = .ok (.iload_n 1, 1)) rfl ?_
  rcases rv_if_e h with ⟨g1_, h⟩ | ⟨g1_, h⟩
  · refine re_if_lt_t (pc := 1) 29 (by decide +kernel : decode cX12_told 1 = .ok (.ifCond .lt 28, 3)) (by decide) g1_ ?_
    refine re_iloadn (pc := 29) 1 (by decide +kernel : decode cX12_told 29 = .ok (.iload_n 1, 1)) rfl ?_
    cases h
    exact re_iret (fun ty hty => by cases hty; rfl) (by decide +kernel : decode cX12_told 30 = .ok (.ireturn, 1))
  · refine re_if_lt_f (pc := 1) 29 (by decide +kernel : decode cX12_told 1 = .ok (.ifCond .lt 28, 3)) (by decide) g1_ ?_
    refine re_aloadn (pc := 4) 0 (by decide +kernel : decode cX12_told 4 = .ok (.aload_n 0, 1)) rfl ?_
    refine re_aloadn (pc := 5) 0 (by decide +kernel : decode cX12_told 5 = .ok (.aload_n 0, 1)) rfl ?_
    obtain ⟨a2_, g3_, h⟩ := rv_b_e h
    refine re_gR (pc := 6) g3_ lfX12_33 rfl (by decide +kernel : decode cX12_told 6 = .ok (.getfield 33, 3)) ?_
    obtain ⟨x4_, g5_, h⟩ := rv_b_e h
    refine re_gL (pc := 9) g5_ lfX12_209 rfl (by decide +kernel : decode cX12_told 9 = .ok (.getfield 209, 3)) ?_
    obtain ⟨S6_, g7_, h⟩ := rv_b_e h
    refine re_pL (pc := 12) g7_ lfX12_213 rfl rfl rfl rfl (by decide +kernel : decode cX12_told 12 = .ok (.putfield 213, 3)) ?_
    refine re_aloadn (pc := 15) 0 (by decide +kernel : decode cX12_told 15 = .ok (.aload_n 0, 1)) rfl ?_
    refine re_aloadn (pc := 16) 0 (by decide +kernel : decode cX12_told 16 = .ok (.aload_n 0, 1)) rfl ?_
    obtain ⟨a8_, g9_, h⟩ := rv_b_e h
    refine re_gR (pc := 17) g9_ lfX12_19 rfl (by decide +kernel : decode cX12_told 17 = .ok (.getfield 19, 3)) ?_
    obtain ⟨a10_, g11_, h⟩ := rv_b_e h
    refine re_gR (pc := 20) g11_ lfX12_138 rfl (by decide +kernel : decode cX12_told 20 = .ok (.getfield 138, 3)) ?_
    obtain ⟨x12_, g13_, h⟩ := rv_b_e h
    refine re_gI (pc := 23) g13_ lfX12_216 rfl (by decide +kernel : decode cX12_told 23 = .ok (.getfield 216, 3)) ?_
    obtain ⟨S14_, g15_, h⟩ := rv_b_e h
    refine re_pI (pc := 26) g15_ lfX12_219 rfl rfl rfl rfl (by decide +kernel : decode cX12_told 26 = .ok (.putfield 219, 3)) ?_
    refine re_iloadn (pc := 29) 1 (by decide +kernel : decode cX12_told 29 = .ok (.iload_n 1, 1)) rfl ?_
    cases h
    exact re_iret (fun ty hty => by cases hty; rfl) (by decide +kernel : decode cX12_told 30 = .ok (.ireturn, 1))
theorem metX12_told (n : Nat) (S : rvS) (a0 : Nat) (x1 : Int32) (r : Int32) (S' : rvS) (h : fnX12_told n S a0 x1 = some (r, S')) : rv_Met yX12_told mX12_told 0 [.ref a0, .int x1] S (some (.int r)) S' := rv_Met.of ⟨by decide +kernel, rfl, (fun z => by first | rfl | cases z), rfl⟩ (Nat.le_of_ble_eq_true rfl) rfl (eX12_told_in n S a0 x1 r S' h)
noncomputable def fnX12_exact (n : Nat) (S : rvS) (a0 : Nat) (x1 : Int32) (x2 : Int32) (x3 : Int32) : Option (Int32 × rvS) :=
  (rv_ck S 10 a0).bind fun u1_ =>
  (fnX12_isWho n S a0 x1).bind fun x4_ =>
  if x4_ = 0 then (
    some ((-2 : Int32), S))
  else (
    (rv_ck S 10 a0).bind fun u7_ =>
    (fnX12_isWho n S a0 x2).bind fun x10_ =>
    if x10_ = 0 then (
      some ((-2 : Int32), S))
    else (
      if x3 < (1 : Int32) then (
        some ((-2 : Int32), S))
      else (
        if x3 ≤ (999 : Int32) then (
          (rv_gR S 10 a0 5).bind fun a15_ =>
          (rv_gR S 10 a0 1).bind fun a17_ =>
          (rv_gR S 8 a17_ 0).bind fun a19_ =>
          (rv_gR S 10 a0 1).bind fun a21_ =>
          (rv_gR S 8 a21_ 1).bind fun a23_ =>
          (rv_ck S 4 a15_).bind fun u25_ =>
          rv_bp (fnX5_choose n S a15_ a19_ a23_ x1 x2 x3) fun x28_ S29_ =>
          (rv_ck S29_ 10 a0).bind fun u32_ =>
          rv_bp (fnX12_told n S29_ a0 x28_) fun x35_ S36_ =>
          some (x35_, S36_))
        else (
          some ((-2 : Int32), S)))))
set_option maxRecDepth 20000 in
set_option maxHeartbeats 4000000 in
theorem eX12_exact_in (n : Nat) (S : rvS) (a0 : Nat) (x1 : Int32) (x2 : Int32) (x3 : Int32) (r : Int32) (S' : rvS) (h : fnX12_exact n S a0 x1 x2 x3 = some (r, S')) : rv_Ev mX12_exact 4 0 [(0, .ref a0), (1, .int x1), (2, .int x2), (3, .int x3)] [] S (some (.int r)) S' := by
  unfold fnX12_exact at h
  refine re_aloadn (pc := 0) 0 (by decide +kernel : decode cX12_exact 0 = .ok (.aload_n 0, 1)) rfl ?_
  refine re_iloadn (pc := 1) 1 (by decide +kernel : decode cX12_exact 1 = .ok (.iload_n 1, 1)) rfl ?_
  obtain ⟨u1_, g2_, h⟩ := rv_b_e h
  obtain ⟨x4_, g5_, h⟩ := rv_b_e h
  have m3_ := metX12_isWho n S a0 x1 _ g5_
  refine re_cV (pc := 2) [.int x1] m3_ (rv_okl.k ⟨rfl, rfl⟩) (rv_up.rf _ _) (by decide) (rv_ck_e g2_) ⟨by decide, rfl⟩ (Nat.le_of_ble_eq_true rfl) lVX12_104 rfl (by decide +kernel : decode cX12_exact 2 = .ok (.invokevirtual 104, 3)) ?_
  rcases rv_if_e h with ⟨g6_, h⟩ | ⟨g6_, h⟩
  · refine re_if_eq_t (pc := 5) 28 (by decide +kernel : decode cX12_exact 5 = .ok (.ifCond .eq 23, 3)) (by decide) g6_ ?_
    refine re_bipush (pc := 28) (-2 : Int32) (by decide +kernel : decode cX12_exact 28 = .ok (.bipush (-2), 2)) (by decide) ?_
    cases h
    exact re_iret (fun ty hty => by cases hty; rfl) (by decide +kernel : decode cX12_exact 30 = .ok (.ireturn, 1))
  · refine re_if_eq_f (pc := 5) 28 (by decide +kernel : decode cX12_exact 5 = .ok (.ifCond .eq 23, 3)) (by decide) g6_ ?_
    refine re_aloadn (pc := 8) 0 (by decide +kernel : decode cX12_exact 8 = .ok (.aload_n 0, 1)) rfl ?_
    refine re_iloadn (pc := 9) 2 (by decide +kernel : decode cX12_exact 9 = .ok (.iload_n 2, 1)) rfl ?_
    obtain ⟨u7_, g8_, h⟩ := rv_b_e h
    obtain ⟨x10_, g11_, h⟩ := rv_b_e h
    have m9_ := metX12_isWho n S a0 x2 _ g11_
    refine re_cV (pc := 10) [.int x2] m9_ (rv_okl.k ⟨rfl, rfl⟩) (rv_up.rf _ _) (by decide) (rv_ck_e g8_) ⟨by decide, rfl⟩ (Nat.le_of_ble_eq_true rfl) lVX12_104 rfl (by decide +kernel : decode cX12_exact 10 = .ok (.invokevirtual 104, 3)) ?_
    rcases rv_if_e h with ⟨g12_, h⟩ | ⟨g12_, h⟩
    · refine re_if_eq_t (pc := 13) 28 (by decide +kernel : decode cX12_exact 13 = .ok (.ifCond .eq 15, 3)) (by decide) g12_ ?_
      refine re_bipush (pc := 28) (-2 : Int32) (by decide +kernel : decode cX12_exact 28 = .ok (.bipush (-2), 2)) (by decide) ?_
      cases h
      exact re_iret (fun ty hty => by cases hty; rfl) (by decide +kernel : decode cX12_exact 30 = .ok (.ireturn, 1))
    · refine re_if_eq_f (pc := 13) 28 (by decide +kernel : decode cX12_exact 13 = .ok (.ifCond .eq 15, 3)) (by decide) g12_ ?_
      refine re_iloadn (pc := 16) 3 (by decide +kernel : decode cX12_exact 16 = .ok (.iload_n 3, 1)) rfl ?_
      refine re_iconst (pc := 17) (1 : Int32) (by decide +kernel : decode cX12_exact 17 = .ok (.iconst 1, 1)) (by decide) ?_
      rcases rv_if_e h with ⟨g13_, h⟩ | ⟨g13_, h⟩
      · refine re_icmp_lt_t (pc := 18) 28 (by decide +kernel : decode cX12_exact 18 = .ok (.if_icmp .lt 10, 3)) (by decide) g13_ ?_
        refine re_bipush (pc := 28) (-2 : Int32) (by decide +kernel : decode cX12_exact 28 = .ok (.bipush (-2), 2)) (by decide) ?_
        cases h
        exact re_iret (fun ty hty => by cases hty; rfl) (by decide +kernel : decode cX12_exact 30 = .ok (.ireturn, 1))
      · refine re_icmp_lt_f (pc := 18) 28 (by decide +kernel : decode cX12_exact 18 = .ok (.if_icmp .lt 10, 3)) (by decide) g13_ ?_
        refine re_iloadn (pc := 21) 3 (by decide +kernel : decode cX12_exact 21 = .ok (.iload_n 3, 1)) rfl ?_
        refine re_sipush (pc := 22) (999 : Int32) (by decide +kernel : decode cX12_exact 22 = .ok (.sipush 999, 3)) (by decide) ?_
        rcases rv_if_e h with ⟨g14_, h⟩ | ⟨g14_, h⟩
        · refine re_icmp_le_t (pc := 25) 31 (by decide +kernel : decode cX12_exact 25 = .ok (.if_icmp .le 6, 3)) (by decide) g14_ ?_
          refine re_aloadn (pc := 31) 0 (by decide +kernel : decode cX12_exact 31 = .ok (.aload_n 0, 1)) rfl ?_
          refine re_aloadn (pc := 32) 0 (by decide +kernel : decode cX12_exact 32 = .ok (.aload_n 0, 1)) rfl ?_
          obtain ⟨a15_, g16_, h⟩ := rv_b_e h
          refine re_gR (pc := 33) g16_ lfX12_33 rfl (by decide +kernel : decode cX12_exact 33 = .ok (.getfield 33, 3)) ?_
          refine re_aloadn (pc := 36) 0 (by decide +kernel : decode cX12_exact 36 = .ok (.aload_n 0, 1)) rfl ?_
          obtain ⟨a17_, g18_, h⟩ := rv_b_e h
          refine re_gR (pc := 37) g18_ lfX12_19 rfl (by decide +kernel : decode cX12_exact 37 = .ok (.getfield 19, 3)) ?_
          obtain ⟨a19_, g20_, h⟩ := rv_b_e h
          refine re_gR (pc := 40) g20_ lfX12_115 rfl (by decide +kernel : decode cX12_exact 40 = .ok (.getfield 115, 3)) ?_
          refine re_aloadn (pc := 43) 0 (by decide +kernel : decode cX12_exact 43 = .ok (.aload_n 0, 1)) rfl ?_
          obtain ⟨a21_, g22_, h⟩ := rv_b_e h
          refine re_gR (pc := 44) g22_ lfX12_19 rfl (by decide +kernel : decode cX12_exact 44 = .ok (.getfield 19, 3)) ?_
          obtain ⟨a23_, g24_, h⟩ := rv_b_e h
          refine re_gR (pc := 47) g24_ lfX12_138 rfl (by decide +kernel : decode cX12_exact 47 = .ok (.getfield 138, 3)) ?_
          refine re_iloadn (pc := 50) 1 (by decide +kernel : decode cX12_exact 50 = .ok (.iload_n 1, 1)) rfl ?_
          refine re_iloadn (pc := 51) 2 (by decide +kernel : decode cX12_exact 51 = .ok (.iload_n 2, 1)) rfl ?_
          refine re_iloadn (pc := 52) 3 (by decide +kernel : decode cX12_exact 52 = .ok (.iload_n 3, 1)) rfl ?_
          obtain ⟨u25_, g26_, h⟩ := rv_b_e h
          obtain ⟨x28_, S29_, g30_, h⟩ := rv_bp_e h
          have m27_ := metX5_choose n S a15_ a19_ a23_ x1 x2 x3 _ _ g30_
          have z31_ : rv_same S S29_ := m27_.sh rfl
          refine re_cV (pc := 53) [.ref a19_, .ref a23_, .int x1, .int x2, .int x3] m27_ (rv_okl.k z31_) (rv_up.sh z31_) (by decide) (rv_ck_e g26_) ⟨by decide, rfl⟩ (Nat.le_of_ble_eq_true rfl) lVX12_202 rfl (by decide +kernel : decode cX12_exact 53 = .ok (.invokevirtual 202, 3)) ?_
          obtain ⟨u32_, g33_, h⟩ := rv_b_e h
          obtain ⟨x35_, S36_, g37_, h⟩ := rv_bp_e h
          have m34_ := metX12_told n S29_ a0 x28_ _ _ g37_
          have z38_ : rv_same S29_ S36_ := m34_.sh rfl
          refine re_cV (pc := 56) [.int x28_] m34_ (rv_okl.k z38_) (rv_up.sh z38_) (by decide) (rv_ck_e g33_) ⟨by decide, rfl⟩ (Nat.le_of_ble_eq_true rfl) lVX12_206 rfl (by decide +kernel : decode cX12_exact 56 = .ok (.invokevirtual 206, 3)) ?_
          cases h
          exact re_iret (fun ty hty => by cases hty; rfl) (by decide +kernel : decode cX12_exact 59 = .ok (.ireturn, 1))
        · refine re_icmp_le_f (pc := 25) 31 (by decide +kernel : decode cX12_exact 25 = .ok (.if_icmp .le 6, 3)) (by decide) g14_ ?_
          refine re_bipush (pc := 28) (-2 : Int32) (by decide +kernel : decode cX12_exact 28 = .ok (.bipush (-2), 2)) (by decide) ?_
          cases h
          exact re_iret (fun ty hty => by cases hty; rfl) (by decide +kernel : decode cX12_exact 30 = .ok (.ireturn, 1))
theorem metX12_exact (n : Nat) (S : rvS) (a0 : Nat) (x1 : Int32) (x2 : Int32) (x3 : Int32) (r : Int32) (S' : rvS) (h : fnX12_exact n S a0 x1 x2 x3 = some (r, S')) : rv_Met yX12_exact mX12_exact 4 [.ref a0, .int x1, .int x2, .int x3] S (some (.int r)) S' := rv_Met.of ⟨by decide +kernel, rfl, (fun z => by first | rfl | cases z), rfl⟩ (Nat.le_of_ble_eq_true rfl) rfl (eX12_exact_in n S a0 x1 x2 x3 r S' h)
noncomputable def fnX12_given (n : Nat) (S : rvS) (a0 : Nat) (x1 : Int32) : Option Int32 :=
  if x1 < 0 then (
    some (-1 : Int32))
  else (
    (rv_gI S 10 a0 13).bind fun x2_ =>
    if x1 < x2_ then (
      (rv_gL S 10 a0 12).bind fun x5_ =>
      some ((((x5_.toUInt64 >>> (x1.toInt64.toUInt64 &&& Int64.toUInt64 63)).toInt64) &&& (1 : Int64)).toInt32))
    else (
      some (-1 : Int32)))
set_option maxRecDepth 20000 in
set_option maxHeartbeats 4000000 in
theorem eX12_given_in (n : Nat) (S : rvS) (a0 : Nat) (x1 : Int32) (r : Int32) (h : fnX12_given n S a0 x1 = some r) : rv_Ev mX12_given 0 0 [(0, .ref a0), (1, .int x1)] [] S (some (.int r)) S := by
  unfold fnX12_given at h
  refine re_iloadn (pc := 0) 1 (by decide +kernel : decode cX12_given 0 = .ok (.iload_n 1, 1)) rfl ?_
  rcases rv_if_e h with ⟨g1_, h⟩ | ⟨g1_, h⟩
  · refine re_if_lt_t (pc := 1) 12 (by decide +kernel : decode cX12_given 1 = .ok (.ifCond .lt 11, 3)) (by decide) g1_ ?_
    refine re_iconst (pc := 12) (-1 : Int32) (by decide +kernel : decode cX12_given 12 = .ok (.iconst (-1), 1)) (by decide) ?_
    cases h
    exact re_iret (fun ty hty => by cases hty; rfl) (by decide +kernel : decode cX12_given 13 = .ok (.ireturn, 1))
  · refine re_if_lt_f (pc := 1) 12 (by decide +kernel : decode cX12_given 1 = .ok (.ifCond .lt 11, 3)) (by decide) g1_ ?_
    refine re_iloadn (pc := 4) 1 (by decide +kernel : decode cX12_given 4 = .ok (.iload_n 1, 1)) rfl ?_
    refine re_aloadn (pc := 5) 0 (by decide +kernel : decode cX12_given 5 = .ok (.aload_n 0, 1)) rfl ?_
    obtain ⟨x2_, g3_, h⟩ := rv_b_e h
    refine re_gI (pc := 6) g3_ lfX12_219 rfl (by decide +kernel : decode cX12_given 6 = .ok (.getfield 219, 3)) ?_
    rcases rv_if_e h with ⟨g4_, h⟩ | ⟨g4_, h⟩
    · refine re_icmp_lt_t (pc := 9) 14 (by decide +kernel : decode cX12_given 9 = .ok (.if_icmp .lt 5, 3)) (by decide) g4_ ?_
      refine re_aloadn (pc := 14) 0 (by decide +kernel : decode cX12_given 14 = .ok (.aload_n 0, 1)) rfl ?_
      obtain ⟨x5_, g6_, h⟩ := rv_b_e h
      refine re_gL (pc := 15) g6_ lfX12_213 rfl (by decide +kernel : decode cX12_given 15 = .ok (.getfield 213, 3)) ?_
      refine re_iloadn (pc := 18) 1 (by decide +kernel : decode cX12_given 18 = .ok (.iload_n 1, 1)) rfl ?_
      refine re_lushr (pc := 19) (by decide +kernel : decode cX12_given 19 = .ok (.lushr, 1)) ?_
      refine re_lconst (pc := 20) (1 : Int64) (by decide +kernel : decode cX12_given 20 = .ok (.lconst 1, 1)) (by decide) ?_
      refine re_land (pc := 21) (by decide +kernel : decode cX12_given 21 = .ok (.land, 1)) ?_
      refine re_l2i (pc := 22) (by decide +kernel : decode cX12_given 22 = .ok (.l2i, 1)) ?_
      cases h
      exact re_iret (fun ty hty => by cases hty; rfl) (by decide +kernel : decode cX12_given 23 = .ok (.ireturn, 1))
    · refine re_icmp_lt_f (pc := 9) 14 (by decide +kernel : decode cX12_given 9 = .ok (.if_icmp .lt 5, 3)) (by decide) g4_ ?_
      refine re_iconst (pc := 12) (-1 : Int32) (by decide +kernel : decode cX12_given 12 = .ok (.iconst (-1), 1)) (by decide) ?_
      cases h
      exact re_iret (fun ty hty => by cases hty; rfl) (by decide +kernel : decode cX12_given 13 = .ok (.ireturn, 1))
theorem metX12_given (n : Nat) (S : rvS) (a0 : Nat) (x1 : Int32) (r : Int32) (h : fnX12_given n S a0 x1 = some r) : rv_Met yX12_given mX12_given 0 [.ref a0, .int x1] S (some (.int r)) S := rv_Met.of ⟨by decide +kernel, rfl, (fun z => by first | rfl | cases z), rfl⟩ (Nat.le_of_ble_eq_true rfl) rfl (eX12_given_in n S a0 x1 r h)
noncomputable def fnX12_settle (n : Nat) (S : rvS) (a0 : Nat) (x1 : Int32) (x2 : Int32) (x3 : Int32) : Option (Int32 × rvS) :=
  (rv_ck S 10 a0).bind fun u1_ =>
  rv_bp (fnX12_exact n S a0 x1 x2 x3) fun x4_ S5_ =>
  if x4_ < 0 then (
    some (x4_, S5_))
  else (
    (rv_gR S5_ 10 a0 1).bind fun a9_ =>
    (rv_gR S5_ 8 a9_ 1).bind fun a11_ =>
    (rv_gR S5_ 10 a0 5).bind fun a13_ =>
    (rv_gL S5_ 4 a13_ 2).bind fun x15_ =>
    (rv_ck S5_ 5 a11_).bind fun u17_ =>
    (fnX6_moveAll n S5_ a11_ x15_ x2).bind fun S20_ =>
    some (x4_, S20_))
set_option maxRecDepth 20000 in
set_option maxHeartbeats 4000000 in
theorem eX12_settle_in (n : Nat) (S : rvS) (a0 : Nat) (x1 : Int32) (x2 : Int32) (x3 : Int32) (r : Int32) (S' : rvS) (h : fnX12_settle n S a0 x1 x2 x3 = some (r, S')) : rv_Ev mX12_settle 5 0 [(0, .ref a0), (1, .int x1), (2, .int x2), (3, .int x3)] [] S (some (.int r)) S' := by
  unfold fnX12_settle at h
  refine re_aloadn (pc := 0) 0 (by decide +kernel : decode cX12_settle 0 = .ok (.aload_n 0, 1)) rfl ?_
  refine re_iloadn (pc := 1) 1 (by decide +kernel : decode cX12_settle 1 = .ok (.iload_n 1, 1)) rfl ?_
  refine re_iloadn (pc := 2) 2 (by decide +kernel : decode cX12_settle 2 = .ok (.iload_n 2, 1)) rfl ?_
  refine re_iloadn (pc := 3) 3 (by decide +kernel : decode cX12_settle 3 = .ok (.iload_n 3, 1)) rfl ?_
  obtain ⟨u1_, g2_, h⟩ := rv_b_e h
  obtain ⟨x4_, S5_, g6_, h⟩ := rv_bp_e h
  have m3_ := metX12_exact n S a0 x1 x2 x3 _ _ g6_
  have z7_ : rv_same S S5_ := m3_.sh rfl
  refine re_cV (pc := 4) [.int x1, .int x2, .int x3] m3_ (rv_okl.k z7_) (rv_up.sh z7_) (by decide) (rv_ck_e g2_) ⟨by decide, rfl⟩ (Nat.le_of_ble_eq_true rfl) lVX12_222 rfl (by decide +kernel : decode cX12_settle 4 = .ok (.invokevirtual 222, 3)) ?_
  refine re_istore (pc := 7) (lv1 := [(4, .int x4_), (0, .ref a0), (1, .int x1), (2, .int x2), (3, .int x3)]) (by decide +kernel : decode cX12_settle 7 = .ok (.istore 4, 2)) (by decide) rfl ?_
  refine re_iload (pc := 9) 0 (by decide +kernel : decode cX12_settle 9 = .ok (.iload 4, 2)) rfl ?_
  rcases rv_if_e h with ⟨g8_, h⟩ | ⟨g8_, h⟩
  · refine re_if_lt_t (pc := 11) 32 (by decide +kernel : decode cX12_settle 11 = .ok (.ifCond .lt 21, 3)) (by decide) g8_ ?_
    refine re_iload (pc := 32) 0 (by decide +kernel : decode cX12_settle 32 = .ok (.iload 4, 2)) rfl ?_
    cases h
    exact re_iret (fun ty hty => by cases hty; rfl) (by decide +kernel : decode cX12_settle 34 = .ok (.ireturn, 1))
  · refine re_if_lt_f (pc := 11) 32 (by decide +kernel : decode cX12_settle 11 = .ok (.ifCond .lt 21, 3)) (by decide) g8_ ?_
    refine re_aloadn (pc := 14) 1 (by decide +kernel : decode cX12_settle 14 = .ok (.aload_n 0, 1)) rfl ?_
    obtain ⟨a9_, g10_, h⟩ := rv_b_e h
    refine re_gR (pc := 15) g10_ lfX12_19 rfl (by decide +kernel : decode cX12_settle 15 = .ok (.getfield 19, 3)) ?_
    obtain ⟨a11_, g12_, h⟩ := rv_b_e h
    refine re_gR (pc := 18) g12_ lfX12_138 rfl (by decide +kernel : decode cX12_settle 18 = .ok (.getfield 138, 3)) ?_
    refine re_aloadn (pc := 21) 1 (by decide +kernel : decode cX12_settle 21 = .ok (.aload_n 0, 1)) rfl ?_
    obtain ⟨a13_, g14_, h⟩ := rv_b_e h
    refine re_gR (pc := 22) g14_ lfX12_33 rfl (by decide +kernel : decode cX12_settle 22 = .ok (.getfield 33, 3)) ?_
    obtain ⟨x15_, g16_, h⟩ := rv_b_e h
    refine re_gL (pc := 25) g16_ lfX12_209 rfl (by decide +kernel : decode cX12_settle 25 = .ok (.getfield 209, 3)) ?_
    refine re_iloadn (pc := 28) 3 (by decide +kernel : decode cX12_settle 28 = .ok (.iload_n 2, 1)) rfl ?_
    obtain ⟨u17_, g18_, h⟩ := rv_b_e h
    obtain ⟨S20_, g21_, h⟩ := rv_b_e h
    have m19_ := metX6_moveAll n S5_ a11_ x15_ x2 _ g21_
    have z22_ : rv_same S5_ S20_ := m19_.sh rfl
    refine re_cV (pc := 29) [.long x15_, .int x2] m19_ (rv_okl.k z22_) (rv_up.sh z22_) (by decide) (rv_ck_e g18_) ⟨by decide, rfl⟩ (Nat.le_of_ble_eq_true rfl) lVX12_226 rfl (by decide +kernel : decode cX12_settle 29 = .ok (.invokevirtual 226, 3)) ?_
    refine re_iload (pc := 32) 0 (by decide +kernel : decode cX12_settle 32 = .ok (.iload 4, 2)) rfl ?_
    cases h
    exact re_iret (fun ty hty => by cases hty; rfl) (by decide +kernel : decode cX12_settle 34 = .ok (.ireturn, 1))
theorem metX12_settle (n : Nat) (S : rvS) (a0 : Nat) (x1 : Int32) (x2 : Int32) (x3 : Int32) (r : Int32) (S' : rvS) (h : fnX12_settle n S a0 x1 x2 x3 = some (r, S')) : rv_Met yX12_settle mX12_settle 5 [.ref a0, .int x1, .int x2, .int x3] S (some (.int r)) S' := rv_Met.of ⟨by decide +kernel, rfl, (fun z => by first | rfl | cases z), rfl⟩ (Nat.le_of_ble_eq_true rfl) rfl (eX12_settle_in n S a0 x1 x2 x3 r S' h)
noncomputable def fnX12_most (n : Nat) (S : rvS) (a0 : Nat) (x1 : Int32) (x2 : Int32) : Option Int32 :=
  (rv_ck S 10 a0).bind fun u1_ =>
  (fnX12_isWho n S a0 x1).bind fun x4_ =>
  if x4_ = 0 then (
    some (-1 : Int32))
  else (
    (rv_ck S 10 a0).bind fun u7_ =>
    (fnX12_isWho n S a0 x2).bind fun x10_ =>
    if x10_ = 0 then (
      some (-1 : Int32))
    else (
      (rv_gR S 10 a0 1).bind fun a13_ =>
      (rv_gR S 8 a13_ 1).bind fun a15_ =>
      (rv_gR S 10 a0 1).bind fun a17_ =>
      (rv_gR S 8 a17_ 1).bind fun a19_ =>
      (rv_gR S 10 a0 1).bind fun a21_ =>
      (rv_gR S 8 a21_ 0).bind fun a23_ =>
      (rv_ck S 5 a19_).bind fun u25_ =>
      (fnX6_goingTo n S a19_ a23_ x1 x2).bind fun x28_ =>
      (rv_ck S 5 a15_).bind fun u30_ =>
      (fnX6_worth n S a15_ x28_).bind fun x33_ =>
      some x33_))
set_option maxRecDepth 20000 in
set_option maxHeartbeats 4000000 in
theorem eX12_most_in (n : Nat) (S : rvS) (a0 : Nat) (x1 : Int32) (x2 : Int32) (r : Int32) (h : fnX12_most n S a0 x1 x2 = some r) : rv_Ev mX12_most 3 0 [(0, .ref a0), (1, .int x1), (2, .int x2)] [] S (some (.int r)) S := by
  unfold fnX12_most at h
  refine re_aloadn (pc := 0) 0 (by decide +kernel : decode cX12_most 0 = .ok (.aload_n 0, 1)) rfl ?_
  refine re_iloadn (pc := 1) 1 (by decide +kernel : decode cX12_most 1 = .ok (.iload_n 1, 1)) rfl ?_
  obtain ⟨u1_, g2_, h⟩ := rv_b_e h
  obtain ⟨x4_, g5_, h⟩ := rv_b_e h
  have m3_ := metX12_isWho n S a0 x1 _ g5_
  refine re_cV (pc := 2) [.int x1] m3_ (rv_okl.k ⟨rfl, rfl⟩) (rv_up.rf _ _) (by decide) (rv_ck_e g2_) ⟨by decide, rfl⟩ (Nat.le_of_ble_eq_true rfl) lVX12_104 rfl (by decide +kernel : decode cX12_most 2 = .ok (.invokevirtual 104, 3)) ?_
  rcases rv_if_e h with ⟨g6_, h⟩ | ⟨g6_, h⟩
  · refine re_if_eq_t (pc := 5) 16 (by decide +kernel : decode cX12_most 5 = .ok (.ifCond .eq 11, 3)) (by decide) g6_ ?_
    refine re_iconst (pc := 16) (-1 : Int32) (by decide +kernel : decode cX12_most 16 = .ok (.iconst (-1), 1)) (by decide) ?_
    cases h
    exact re_iret (fun ty hty => by cases hty; rfl) (by decide +kernel : decode cX12_most 17 = .ok (.ireturn, 1))
  · refine re_if_eq_f (pc := 5) 16 (by decide +kernel : decode cX12_most 5 = .ok (.ifCond .eq 11, 3)) (by decide) g6_ ?_
    refine re_aloadn (pc := 8) 0 (by decide +kernel : decode cX12_most 8 = .ok (.aload_n 0, 1)) rfl ?_
    refine re_iloadn (pc := 9) 2 (by decide +kernel : decode cX12_most 9 = .ok (.iload_n 2, 1)) rfl ?_
    obtain ⟨u7_, g8_, h⟩ := rv_b_e h
    obtain ⟨x10_, g11_, h⟩ := rv_b_e h
    have m9_ := metX12_isWho n S a0 x2 _ g11_
    refine re_cV (pc := 10) [.int x2] m9_ (rv_okl.k ⟨rfl, rfl⟩) (rv_up.rf _ _) (by decide) (rv_ck_e g8_) ⟨by decide, rfl⟩ (Nat.le_of_ble_eq_true rfl) lVX12_104 rfl (by decide +kernel : decode cX12_most 10 = .ok (.invokevirtual 104, 3)) ?_
    rcases rv_if_e h with ⟨g12_, h⟩ | ⟨g12_, h⟩
    · refine re_if_ne_f (pc := 13) 18 (by decide +kernel : decode cX12_most 13 = .ok (.ifCond .ne 5, 3)) (by decide) g12_ ?_
      refine re_iconst (pc := 16) (-1 : Int32) (by decide +kernel : decode cX12_most 16 = .ok (.iconst (-1), 1)) (by decide) ?_
      cases h
      exact re_iret (fun ty hty => by cases hty; rfl) (by decide +kernel : decode cX12_most 17 = .ok (.ireturn, 1))
    · refine re_if_ne_t (pc := 13) 18 (by decide +kernel : decode cX12_most 13 = .ok (.ifCond .ne 5, 3)) (by decide) g12_ ?_
      refine re_aloadn (pc := 18) 0 (by decide +kernel : decode cX12_most 18 = .ok (.aload_n 0, 1)) rfl ?_
      obtain ⟨a13_, g14_, h⟩ := rv_b_e h
      refine re_gR (pc := 19) g14_ lfX12_19 rfl (by decide +kernel : decode cX12_most 19 = .ok (.getfield 19, 3)) ?_
      obtain ⟨a15_, g16_, h⟩ := rv_b_e h
      refine re_gR (pc := 22) g16_ lfX12_138 rfl (by decide +kernel : decode cX12_most 22 = .ok (.getfield 138, 3)) ?_
      refine re_aloadn (pc := 25) 0 (by decide +kernel : decode cX12_most 25 = .ok (.aload_n 0, 1)) rfl ?_
      obtain ⟨a17_, g18_, h⟩ := rv_b_e h
      refine re_gR (pc := 26) g18_ lfX12_19 rfl (by decide +kernel : decode cX12_most 26 = .ok (.getfield 19, 3)) ?_
      obtain ⟨a19_, g20_, h⟩ := rv_b_e h
      refine re_gR (pc := 29) g20_ lfX12_138 rfl (by decide +kernel : decode cX12_most 29 = .ok (.getfield 138, 3)) ?_
      refine re_aloadn (pc := 32) 0 (by decide +kernel : decode cX12_most 32 = .ok (.aload_n 0, 1)) rfl ?_
      obtain ⟨a21_, g22_, h⟩ := rv_b_e h
      refine re_gR (pc := 33) g22_ lfX12_19 rfl (by decide +kernel : decode cX12_most 33 = .ok (.getfield 19, 3)) ?_
      obtain ⟨a23_, g24_, h⟩ := rv_b_e h
      refine re_gR (pc := 36) g24_ lfX12_115 rfl (by decide +kernel : decode cX12_most 36 = .ok (.getfield 115, 3)) ?_
      refine re_iloadn (pc := 39) 1 (by decide +kernel : decode cX12_most 39 = .ok (.iload_n 1, 1)) rfl ?_
      refine re_iloadn (pc := 40) 2 (by decide +kernel : decode cX12_most 40 = .ok (.iload_n 2, 1)) rfl ?_
      obtain ⟨u25_, g26_, h⟩ := rv_b_e h
      obtain ⟨x28_, g29_, h⟩ := rv_b_e h
      have m27_ := metX6_goingTo n S a19_ a23_ x1 x2 _ g29_
      refine re_cV (pc := 41) [.ref a23_, .int x1, .int x2] m27_ (rv_okl.k ⟨rfl, rfl⟩) (rv_up.rf _ _) (by decide) (rv_ck_e g26_) ⟨by decide, rfl⟩ (Nat.le_of_ble_eq_true rfl) lVX12_230 rfl (by decide +kernel : decode cX12_most 41 = .ok (.invokevirtual 230, 3)) ?_
      obtain ⟨u30_, g31_, h⟩ := rv_b_e h
      obtain ⟨x33_, g34_, h⟩ := rv_b_e h
      have m32_ := metX6_worth n S a15_ x28_ _ g34_
      refine re_cV (pc := 44) [.long x28_] m32_ (rv_okl.k ⟨rfl, rfl⟩) (rv_up.rf _ _) (by decide) (rv_ck_e g31_) ⟨by decide, rfl⟩ (Nat.le_of_ble_eq_true rfl) lVX12_154 rfl (by decide +kernel : decode cX12_most 44 = .ok (.invokevirtual 154, 3)) ?_
      cases h
      exact re_iret (fun ty hty => by cases hty; rfl) (by decide +kernel : decode cX12_most 47 = .ok (.ireturn, 1))
theorem metX12_most (n : Nat) (S : rvS) (a0 : Nat) (x1 : Int32) (x2 : Int32) (r : Int32) (h : fnX12_most n S a0 x1 x2 = some r) : rv_Met yX12_most mX12_most 3 [.ref a0, .int x1, .int x2] S (some (.int r)) S := rv_Met.of ⟨by decide +kernel, rfl, (fun z => by first | rfl | cases z), rfl⟩ (Nat.le_of_ble_eq_true rfl) rfl (eX12_most_in n S a0 x1 x2 r h)
noncomputable def cX12_payable_27 (n : Nat) : Nat → rvS → Nat → Int32 → Int32 → Int32 → Int32 → Option (Int32 × rvS)
  | 0, _, _, _, _, _, _ => none
  | k + 1, S, a0, x1, x2, x3, x4 =>
    (rv_gR S 10 a0 1).bind fun a1_ =>
    (rv_gR S 8 a1_ 0).bind fun a3_ =>
    (rv_gI S 0 a3_ 0).bind fun x5_ =>
    if x5_ ≤ x4 then (
      some (x3, S))
    else (
      (rv_gR S 10 a0 5).bind fun a8_ =>
      (rv_gR S 10 a0 1).bind fun a10_ =>
      (rv_gR S 8 a10_ 0).bind fun a12_ =>
      (rv_gR S 10 a0 1).bind fun a14_ =>
      (rv_gR S 8 a14_ 1).bind fun a16_ =>
      (rv_ck S 4 a8_).bind fun u18_ =>
      rv_bp (fnX5_choose n S a8_ a12_ a16_ x1 x4 x2) fun x21_ S22_ =>
      if x21_ < 0 then (
        rv_lt (x4 + (1)) fun x26_ =>
        cX12_payable_27 n k S22_ a0 x1 x2 x3 x26_)
      else (
        rv_lt (x3 ||| ((1 : Int32) <<< (x4 &&& 31))) fun x28_ =>
        rv_lt (x4 + (1)) fun x30_ =>
        cX12_payable_27 n k S22_ a0 x1 x2 x28_ x30_))
set_option maxRecDepth 20000 in
set_option maxHeartbeats 4000000 in
theorem eX12_payable_27 (n : Nat) : ∀ (k : Nat) (S : rvS) (a0 : Nat) (x1 : Int32) (x2 : Int32) (x3 : Int32) (x4 : Int32) (r : Int32) (S' : rvS), cX12_payable_27 n k S a0 x1 x2 x3 x4 = some (r, S') → rv_Ev mX12_payable 4 27 [(0, .ref a0), (1, .int x1), (2, .int x2), (3, .int x3), (4, .int x4)] [] S (some (.int r)) S' := by
  intro k
  induction k with
  | zero => intro S a0 x1 x2 x3 x4 r S' h; exact absurd h (by simp [cX12_payable_27])
  | succ k ih =>
    intro S a0 x1 x2 x3 x4 r S' h
    unfold cX12_payable_27 at h
    refine re_iload (pc := 27) 4 (by decide +kernel : decode cX12_payable 27 = .ok (.iload 4, 2)) rfl ?_
    refine re_aloadn (pc := 29) 0 (by decide +kernel : decode cX12_payable 29 = .ok (.aload_n 0, 1)) rfl ?_
    obtain ⟨a1_, g2_, h⟩ := rv_b_e h
    refine re_gR (pc := 30) g2_ lfX12_19 rfl (by decide +kernel : decode cX12_payable 30 = .ok (.getfield 19, 3)) ?_
    obtain ⟨a3_, g4_, h⟩ := rv_b_e h
    refine re_gR (pc := 33) g4_ lfX12_115 rfl (by decide +kernel : decode cX12_payable 33 = .ok (.getfield 115, 3)) ?_
    obtain ⟨x5_, g6_, h⟩ := rv_b_e h
    refine re_gI (pc := 36) g6_ lfX12_234 rfl (by decide +kernel : decode cX12_payable 36 = .ok (.getfield 234, 3)) ?_
    rcases rv_if_e h with ⟨g7_, h⟩ | ⟨g7_, h⟩
    · refine re_icmp_ge_t (pc := 39) 83 (by decide +kernel : decode cX12_payable 39 = .ok (.if_icmp .ge 44, 3)) (by decide) g7_ ?_
      refine re_iloadn (pc := 83) 3 (by decide +kernel : decode cX12_payable 83 = .ok (.iload_n 3, 1)) rfl ?_
      cases h
      exact re_iret (fun ty hty => by cases hty; rfl) (by decide +kernel : decode cX12_payable 84 = .ok (.ireturn, 1))
    · refine re_icmp_ge_f (pc := 39) 83 (by decide +kernel : decode cX12_payable 39 = .ok (.if_icmp .ge 44, 3)) (by decide) g7_ ?_
      refine re_aloadn (pc := 42) 0 (by decide +kernel : decode cX12_payable 42 = .ok (.aload_n 0, 1)) rfl ?_
      obtain ⟨a8_, g9_, h⟩ := rv_b_e h
      refine re_gR (pc := 43) g9_ lfX12_33 rfl (by decide +kernel : decode cX12_payable 43 = .ok (.getfield 33, 3)) ?_
      refine re_aloadn (pc := 46) 0 (by decide +kernel : decode cX12_payable 46 = .ok (.aload_n 0, 1)) rfl ?_
      obtain ⟨a10_, g11_, h⟩ := rv_b_e h
      refine re_gR (pc := 47) g11_ lfX12_19 rfl (by decide +kernel : decode cX12_payable 47 = .ok (.getfield 19, 3)) ?_
      obtain ⟨a12_, g13_, h⟩ := rv_b_e h
      refine re_gR (pc := 50) g13_ lfX12_115 rfl (by decide +kernel : decode cX12_payable 50 = .ok (.getfield 115, 3)) ?_
      refine re_aloadn (pc := 53) 0 (by decide +kernel : decode cX12_payable 53 = .ok (.aload_n 0, 1)) rfl ?_
      obtain ⟨a14_, g15_, h⟩ := rv_b_e h
      refine re_gR (pc := 54) g15_ lfX12_19 rfl (by decide +kernel : decode cX12_payable 54 = .ok (.getfield 19, 3)) ?_
      obtain ⟨a16_, g17_, h⟩ := rv_b_e h
      refine re_gR (pc := 57) g17_ lfX12_138 rfl (by decide +kernel : decode cX12_payable 57 = .ok (.getfield 138, 3)) ?_
      refine re_iloadn (pc := 60) 1 (by decide +kernel : decode cX12_payable 60 = .ok (.iload_n 1, 1)) rfl ?_
      refine re_iload (pc := 61) 4 (by decide +kernel : decode cX12_payable 61 = .ok (.iload 4, 2)) rfl ?_
      refine re_iloadn (pc := 63) 2 (by decide +kernel : decode cX12_payable 63 = .ok (.iload_n 2, 1)) rfl ?_
      obtain ⟨u18_, g19_, h⟩ := rv_b_e h
      obtain ⟨x21_, S22_, g23_, h⟩ := rv_bp_e h
      have m20_ := metX5_choose n S a8_ a12_ a16_ x1 x4 x2 _ _ g23_
      have z24_ : rv_same S S22_ := m20_.sh rfl
      refine re_cV (pc := 64) [.ref a12_, .ref a16_, .int x1, .int x4, .int x2] m20_ (rv_okl.k z24_) (rv_up.sh z24_) (by decide) (rv_ck_e g19_) ⟨by decide, rfl⟩ (Nat.le_of_ble_eq_true rfl) lVX12_202 rfl (by decide +kernel : decode cX12_payable 64 = .ok (.invokevirtual 202, 3)) ?_
      rcases rv_if_e h with ⟨g25_, h⟩ | ⟨g25_, h⟩
      · refine re_if_lt_t (pc := 67) 77 (by decide +kernel : decode cX12_payable 67 = .ok (.ifCond .lt 10, 3)) (by decide) g25_ ?_
        obtain ⟨x26_, g27_, h⟩ := rv_lt_e h
        refine re_iinc (pc := 77) 4 x26_ (lv1 := [(4, .int x26_), (0, .ref a0), (1, .int x1), (2, .int x2), (3, .int x3)]) (by decide +kernel : decode cX12_payable 77 = .ok (.iinc 4 1, 3)) rfl g27_ (by decide) rfl ?_
        refine re_goto (pc := 80) 27 (by decide +kernel : decode cX12_payable 80 = .ok (.goto (-53), 3)) (by decide) ?_
        refine re_sub [1, 2, 3, 4, 0] (lv1 := [(0, .ref a0), (1, .int x1), (2, .int x2), (3, .int x3), (4, .int x26_)]) rfl ?_
        exact ih S22_ a0 x1 x2 x3 x26_ _ _ h
      · refine re_if_lt_f (pc := 67) 77 (by decide +kernel : decode cX12_payable 67 = .ok (.ifCond .lt 10, 3)) (by decide) g25_ ?_
        refine re_iloadn (pc := 70) 3 (by decide +kernel : decode cX12_payable 70 = .ok (.iload_n 3, 1)) rfl ?_
        refine re_iconst (pc := 71) (1 : Int32) (by decide +kernel : decode cX12_payable 71 = .ok (.iconst 1, 1)) (by decide) ?_
        refine re_iload (pc := 72) 4 (by decide +kernel : decode cX12_payable 72 = .ok (.iload 4, 2)) rfl ?_
        refine re_ishl (pc := 74) (by decide +kernel : decode cX12_payable 74 = .ok (.ishl, 1)) ?_
        refine re_ior (pc := 75) (by decide +kernel : decode cX12_payable 75 = .ok (.ior, 1)) ?_
        obtain ⟨x28_, g29_, h⟩ := rv_lt_e h
        refine re_nI (pc := 76) g29_ ?_
        refine re_istoren (pc := 76) (lv1 := [(3, .int x28_), (0, .ref a0), (1, .int x1), (2, .int x2), (4, .int x4)]) (by decide +kernel : decode cX12_payable 76 = .ok (.istore_n 3, 1)) rfl (by decide) rfl ?_
        obtain ⟨x30_, g31_, h⟩ := rv_lt_e h
        refine re_iinc (pc := 77) 4 x30_ (lv1 := [(4, .int x30_), (3, .int x28_), (0, .ref a0), (1, .int x1), (2, .int x2)]) (by decide +kernel : decode cX12_payable 77 = .ok (.iinc 4 1, 3)) rfl g31_ (by decide) rfl ?_
        refine re_goto (pc := 80) 27 (by decide +kernel : decode cX12_payable 80 = .ok (.goto (-53), 3)) (by decide) ?_
        refine re_sub [2, 3, 4, 1, 0] (lv1 := [(0, .ref a0), (1, .int x1), (2, .int x2), (3, .int x28_), (4, .int x30_)]) rfl ?_
        exact ih S22_ a0 x1 x2 x28_ x30_ _ _ h
noncomputable def fnX12_payable (n : Nat) (S : rvS) (a0 : Nat) (x1 : Int32) (x2 : Int32) : Option (Int32 × rvS) :=
  (rv_ck S 10 a0).bind fun u1_ =>
  (fnX12_isWho n S a0 x1).bind fun x4_ =>
  if x4_ = 0 then (
    some ((-1 : Int32), S))
  else (
    if x2 < (1 : Int32) then (
      some ((-1 : Int32), S))
    else (
      if x2 ≤ (999 : Int32) then (
        cX12_payable_27 n n S a0 x1 x2 (0 : Int32) (0 : Int32))
      else (
        some ((-1 : Int32), S))))
set_option maxRecDepth 20000 in
set_option maxHeartbeats 4000000 in
theorem eX12_payable_in (n : Nat) (S : rvS) (a0 : Nat) (x1 : Int32) (x2 : Int32) (r : Int32) (S' : rvS) (h : fnX12_payable n S a0 x1 x2 = some (r, S')) : rv_Ev mX12_payable 4 0 [(0, .ref a0), (1, .int x1), (2, .int x2)] [] S (some (.int r)) S' := by
  unfold fnX12_payable at h
  refine re_aloadn (pc := 0) 0 (by decide +kernel : decode cX12_payable 0 = .ok (.aload_n 0, 1)) rfl ?_
  refine re_iloadn (pc := 1) 1 (by decide +kernel : decode cX12_payable 1 = .ok (.iload_n 1, 1)) rfl ?_
  obtain ⟨u1_, g2_, h⟩ := rv_b_e h
  obtain ⟨x4_, g5_, h⟩ := rv_b_e h
  have m3_ := metX12_isWho n S a0 x1 _ g5_
  refine re_cV (pc := 2) [.int x1] m3_ (rv_okl.k ⟨rfl, rfl⟩) (rv_up.rf _ _) (by decide) (rv_ck_e g2_) ⟨by decide, rfl⟩ (Nat.le_of_ble_eq_true rfl) lVX12_104 rfl (by decide +kernel : decode cX12_payable 2 = .ok (.invokevirtual 104, 3)) ?_
  rcases rv_if_e h with ⟨g6_, h⟩ | ⟨g6_, h⟩
  · refine re_if_eq_t (pc := 5) 20 (by decide +kernel : decode cX12_payable 5 = .ok (.ifCond .eq 15, 3)) (by decide) g6_ ?_
    refine re_iconst (pc := 20) (-1 : Int32) (by decide +kernel : decode cX12_payable 20 = .ok (.iconst (-1), 1)) (by decide) ?_
    cases h
    exact re_iret (fun ty hty => by cases hty; rfl) (by decide +kernel : decode cX12_payable 21 = .ok (.ireturn, 1))
  · refine re_if_eq_f (pc := 5) 20 (by decide +kernel : decode cX12_payable 5 = .ok (.ifCond .eq 15, 3)) (by decide) g6_ ?_
    refine re_iloadn (pc := 8) 2 (by decide +kernel : decode cX12_payable 8 = .ok (.iload_n 2, 1)) rfl ?_
    refine re_iconst (pc := 9) (1 : Int32) (by decide +kernel : decode cX12_payable 9 = .ok (.iconst 1, 1)) (by decide) ?_
    rcases rv_if_e h with ⟨g7_, h⟩ | ⟨g7_, h⟩
    · refine re_icmp_lt_t (pc := 10) 20 (by decide +kernel : decode cX12_payable 10 = .ok (.if_icmp .lt 10, 3)) (by decide) g7_ ?_
      refine re_iconst (pc := 20) (-1 : Int32) (by decide +kernel : decode cX12_payable 20 = .ok (.iconst (-1), 1)) (by decide) ?_
      cases h
      exact re_iret (fun ty hty => by cases hty; rfl) (by decide +kernel : decode cX12_payable 21 = .ok (.ireturn, 1))
    · refine re_icmp_lt_f (pc := 10) 20 (by decide +kernel : decode cX12_payable 10 = .ok (.if_icmp .lt 10, 3)) (by decide) g7_ ?_
      refine re_iloadn (pc := 13) 2 (by decide +kernel : decode cX12_payable 13 = .ok (.iload_n 2, 1)) rfl ?_
      refine re_sipush (pc := 14) (999 : Int32) (by decide +kernel : decode cX12_payable 14 = .ok (.sipush 999, 3)) (by decide) ?_
      rcases rv_if_e h with ⟨g8_, h⟩ | ⟨g8_, h⟩
      · refine re_icmp_le_t (pc := 17) 22 (by decide +kernel : decode cX12_payable 17 = .ok (.if_icmp .le 5, 3)) (by decide) g8_ ?_
        refine re_iconst (pc := 22) (0 : Int32) (by decide +kernel : decode cX12_payable 22 = .ok (.iconst 0, 1)) (by decide) ?_
        refine re_istoren (pc := 23) (lv1 := [(3, .int (0 : Int32)), (0, .ref a0), (1, .int x1), (2, .int x2)]) (by decide +kernel : decode cX12_payable 23 = .ok (.istore_n 3, 1)) rfl (by decide) rfl ?_
        refine re_iconst (pc := 24) (0 : Int32) (by decide +kernel : decode cX12_payable 24 = .ok (.iconst 0, 1)) (by decide) ?_
        refine re_istore (pc := 25) (lv1 := [(4, .int (0 : Int32)), (3, .int (0 : Int32)), (0, .ref a0), (1, .int x1), (2, .int x2)]) (by decide +kernel : decode cX12_payable 25 = .ok (.istore 4, 2)) (by decide) rfl ?_
        refine re_sub [2, 3, 4, 1, 0] (lv1 := [(0, .ref a0), (1, .int x1), (2, .int x2), (3, .int (0 : Int32)), (4, .int (0 : Int32))]) rfl ?_
        exact eX12_payable_27 n n S a0 x1 x2 (0 : Int32) (0 : Int32) _ _ h
      · refine re_icmp_le_f (pc := 17) 22 (by decide +kernel : decode cX12_payable 17 = .ok (.if_icmp .le 5, 3)) (by decide) g8_ ?_
        refine re_iconst (pc := 20) (-1 : Int32) (by decide +kernel : decode cX12_payable 20 = .ok (.iconst (-1), 1)) (by decide) ?_
        cases h
        exact re_iret (fun ty hty => by cases hty; rfl) (by decide +kernel : decode cX12_payable 21 = .ok (.ireturn, 1))
theorem metX12_payable (n : Nat) (S : rvS) (a0 : Nat) (x1 : Int32) (x2 : Int32) (r : Int32) (S' : rvS) (h : fnX12_payable n S a0 x1 x2 = some (r, S')) : rv_Met yX12_payable mX12_payable 4 [.ref a0, .int x1, .int x2] S (some (.int r)) S' := rv_Met.of ⟨by decide +kernel, rfl, (fun z => by first | rfl | cases z), rfl⟩ (Nat.le_of_ble_eq_true rfl) rfl (eX12_payable_in n S a0 x1 x2 r S' h)
noncomputable def fnX12_isDaySum (n : Nat) (S : rvS) (x0 : Int32) : Option Int32 :=
  if x0 < (1 : Int32) then (
    some (0 : Int32))
  else (
    if (99 : Int32) < x0 then (
      some (0 : Int32))
    else (
      some (1 : Int32)))
set_option maxRecDepth 20000 in
set_option maxHeartbeats 4000000 in
theorem eX12_isDaySum_in (n : Nat) (S : rvS) (x0 : Int32) (r : Int32) (h : fnX12_isDaySum n S x0 = some r) : rv_Ev mX12_isDaySum 0 0 [(0, .int x0)] [] S (some (.int r)) S := by
  unfold fnX12_isDaySum at h
  refine re_iloadn (pc := 0) 0 (by decide +kernel : decode cX12_isDaySum 0 = .ok (.iload_n 0, 1)) rfl ?_
  refine re_iconst (pc := 1) (1 : Int32) (by decide +kernel : decode cX12_isDaySum 1 = .ok (.iconst 1, 1)) (by decide) ?_
  rcases rv_if_e h with ⟨g1_, h⟩ | ⟨g1_, h⟩
  · refine re_icmp_lt_t (pc := 2) 15 (by decide +kernel : decode cX12_isDaySum 2 = .ok (.if_icmp .lt 13, 3)) (by decide) g1_ ?_
    refine re_iconst (pc := 15) (0 : Int32) (by decide +kernel : decode cX12_isDaySum 15 = .ok (.iconst 0, 1)) (by decide) ?_
    cases h
    exact re_iret (fun ty hty => by cases hty; rfl) (by decide +kernel : decode cX12_isDaySum 16 = .ok (.ireturn, 1))
  · refine re_icmp_lt_f (pc := 2) 15 (by decide +kernel : decode cX12_isDaySum 2 = .ok (.if_icmp .lt 13, 3)) (by decide) g1_ ?_
    refine re_iloadn (pc := 5) 0 (by decide +kernel : decode cX12_isDaySum 5 = .ok (.iload_n 0, 1)) rfl ?_
    refine re_bipush (pc := 6) (99 : Int32) (by decide +kernel : decode cX12_isDaySum 6 = .ok (.bipush 99, 2)) (by decide) ?_
    rcases rv_if_e h with ⟨g2_, h⟩ | ⟨g2_, h⟩
    · refine re_icmp_gt_t (pc := 8) 15 (by decide +kernel : decode cX12_isDaySum 8 = .ok (.if_icmp .gt 7, 3)) (by decide) g2_ ?_
      refine re_iconst (pc := 15) (0 : Int32) (by decide +kernel : decode cX12_isDaySum 15 = .ok (.iconst 0, 1)) (by decide) ?_
      cases h
      exact re_iret (fun ty hty => by cases hty; rfl) (by decide +kernel : decode cX12_isDaySum 16 = .ok (.ireturn, 1))
    · refine re_icmp_gt_f (pc := 8) 15 (by decide +kernel : decode cX12_isDaySum 8 = .ok (.if_icmp .gt 7, 3)) (by decide) g2_ ?_
      refine re_iconst (pc := 11) (1 : Int32) (by decide +kernel : decode cX12_isDaySum 11 = .ok (.iconst 1, 1)) (by decide) ?_
      refine re_goto (pc := 12) 16 (by decide +kernel : decode cX12_isDaySum 12 = .ok (.goto 4, 3)) (by decide) ?_
      cases h
      exact re_iret (fun ty hty => by cases hty; rfl) (by decide +kernel : decode cX12_isDaySum 16 = .ok (.ireturn, 1))
theorem metX12_isDaySum (n : Nat) (S : rvS) (x0 : Int32) (r : Int32) (h : fnX12_isDaySum n S x0 = some r) : rv_Met yX12_isDaySum mX12_isDaySum 0 [.int x0] S (some (.int r)) S := rv_Met.of ⟨by decide +kernel, rfl, (fun z => by first | rfl | cases z), rfl⟩ (Nat.le_of_ble_eq_true rfl) rfl (eX12_isDaySum_in n S x0 r h)
