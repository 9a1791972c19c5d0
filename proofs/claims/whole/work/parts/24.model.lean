noncomputable def cX13_leaveOut_210 (n : Nat) (K90 : Nat → Int32 → Int32 → Int32 → Int32 → Int32 → Int32 → Int32 → rvS → Option (Int32 × rvS)) (S : rvS) (a0 : Nat) (x3 : Int32) (x4 : Int32) (x5 : Int32) (x6 : Int32) (x7 : Int32) (x8 : Int32) (x9 : Int32) : Option (Int32 × rvS) :=
  (rv_ck S 11 a0).bind fun u1_ =>
  (fnX13_code n S a0).bind fun x4_ =>
  (rv_gR S 11 a0 31).bind fun a6_ =>
  (rv_aI S 0 a6_ x4_).bind fun x8_ =>
  if x8_ = (-1 : Int32) then (
    rv_lt (x9 + (1)) fun x11_ =>
    K90 a0 x3 x4 x5 x6 x7 x8 x11_ S)
  else (
    (rv_ck S 11 a0).bind fun u13_ =>
    (fnX13_whyNot n S a0 x4).bind fun x16_ =>
    if x16_ = 0 then (
      (rv_gR S 11 a0 33).bind fun a19_ =>
      (rv_aI S 0 a19_ x4_).bind fun x21_ =>
      (rv_uI S a19_ x4_ (x21_ - (1 : Int32))).bind fun S23_ =>
      (rv_gR S23_ 11 a0 33).bind fun a25_ =>
      (rv_aI S23_ 0 a25_ x4_).bind fun x27_ =>
      if x27_ = 0 then (
        (rv_ck S23_ 11 a0).bind fun u32_ =>
        rv_bp (fnX13_end_ n S23_ a0 x4_ x3) fun x35_ S36_ =>
        rv_lt (x9 + (1)) fun x39_ =>
        K90 a0 x35_ x4 x5 x6 x7 x8 x39_ S36_)
      else (
        rv_lt (x9 + (1)) fun x30_ =>
        K90 a0 x3 x4 x5 x6 x7 x8 x30_ S23_))
    else (
      rv_lt (x9 + (1)) fun x41_ =>
      K90 a0 x3 x4 x5 x6 x7 x8 x41_ S))
set_option maxRecDepth 20000 in
set_option maxHeartbeats 4000000 in
theorem eX13_leaveOut_210 (n : Nat) (K90 : Nat → Int32 → Int32 → Int32 → Int32 → Int32 → Int32 → Int32 → rvS → Option (Int32 × rvS)) (hK90 : ∀ (a0 : Nat) (x3 : Int32) (x4 : Int32) (x5 : Int32) (x6 : Int32) (x7 : Int32) (x8 : Int32) (x9 : Int32) (S : rvS) (r : Int32) (S' : rvS), K90 a0 x3 x4 x5 x6 x7 x8 x9 S = some (r, S') → rv_Ev mX13_leaveOut 4 90 [(0, .ref a0), (3, .int x3), (4, .int x4), (5, .int x5), (6, .int x6), (7, .int x7), (8, .int x8), (9, .int x9)] [] S (some (.int r)) S') (S : rvS) (a0 : Nat) (x3 : Int32) (x4 : Int32) (x5 : Int32) (x6 : Int32) (x7 : Int32) (x8 : Int32) (x9 : Int32) (r : Int32) (S' : rvS) (h : cX13_leaveOut_210 n K90 S a0 x3 x4 x5 x6 x7 x8 x9 = some (r, S')) : rv_Ev mX13_leaveOut 4 210 [(0, .ref a0), (3, .int x3), (4, .int x4), (5, .int x5), (6, .int x6), (7, .int x7), (8, .int x8), (9, .int x9)] [] S (some (.int r)) S' := by
  unfold cX13_leaveOut_210 at h
  refine re_aloadn (pc := 210) 0 (by decide +kernel : decode cX13_leaveOut 210 = .ok (.aload_n 0, 1)) rfl ?_
  obtain ⟨u1_, g2_, h⟩ := rv_b_e h
  obtain ⟨x4_, g5_, h⟩ := rv_b_e h
  have m3_ := metX13_code n S a0 _ g5_
  refine re_cV (pc := 211) [] m3_ (rv_okl.k ⟨rfl, rfl⟩) (rv_up.rf _ _) (by decide) (rv_ck_e g2_) ⟨by decide, rfl⟩ (Nat.le_of_ble_eq_true rfl) lVX13_366 rfl (by decide +kernel : decode cX13_leaveOut 211 = .ok (.invokevirtual 366, 3)) ?_
  refine re_istore (pc := 214) (lv1 := [(10, .int x4_), (0, .ref a0), (3, .int x3), (4, .int x4), (5, .int x5), (6, .int x6), (7, .int x7), (8, .int x8), (9, .int x9)]) (by decide +kernel : decode cX13_leaveOut 214 = .ok (.istore 10, 2)) (by decide) rfl ?_
  refine re_aloadn (pc := 216) 1 (by decide +kernel : decode cX13_leaveOut 216 = .ok (.aload_n 0, 1)) rfl ?_
  obtain ⟨a6_, g7_, h⟩ := rv_b_e h
  refine re_gR (pc := 217) g7_ lfX13_63 rfl (by decide +kernel : decode cX13_leaveOut 217 = .ok (.getfield 63, 3)) ?_
  refine re_iload (pc := 220) 0 (by decide +kernel : decode cX13_leaveOut 220 = .ok (.iload 10, 2)) rfl ?_
  obtain ⟨x8_, g9_, h⟩ := rv_b_e h
  refine re_aI (pc := 222) g9_ (by decide +kernel : decode cX13_leaveOut 222 = .ok (.iaload, 1)) ?_
  refine re_iconst (pc := 223) (-1 : Int32) (by decide +kernel : decode cX13_leaveOut 223 = .ok (.iconst (-1), 1)) (by decide) ?_
  rcases rv_if_e h with ⟨g10_, h⟩ | ⟨g10_, h⟩
  · refine re_icmp_eq_t (pc := 224) 268 (by decide +kernel : decode cX13_leaveOut 224 = .ok (.if_icmp .eq 44, 3)) (by decide) g10_ ?_
    obtain ⟨x11_, g12_, h⟩ := rv_lt_e h
    refine re_iinc (pc := 268) 8 x11_ (lv1 := [(9, .int x11_), (10, .int x4_), (0, .ref a0), (3, .int x3), (4, .int x4), (5, .int x5), (6, .int x6), (7, .int x7), (8, .int x8)]) (by decide +kernel : decode cX13_leaveOut 268 = .ok (.iinc 9 1, 3)) rfl g12_ (by decide) rfl ?_
    refine re_goto (pc := 271) 90 (by decide +kernel : decode cX13_leaveOut 271 = .ok (.goto (-181), 3)) (by decide) ?_
    refine re_sub [2, 3, 4, 5, 6, 7, 8, 0] (lv1 := [(0, .ref a0), (3, .int x3), (4, .int x4), (5, .int x5), (6, .int x6), (7, .int x7), (8, .int x8), (9, .int x11_)]) rfl ?_
    exact hK90 a0 x3 x4 x5 x6 x7 x8 x11_ S _ _ h
  · refine re_icmp_eq_f (pc := 224) 268 (by decide +kernel : decode cX13_leaveOut 224 = .ok (.if_icmp .eq 44, 3)) (by decide) g10_ ?_
    refine re_aloadn (pc := 227) 1 (by decide +kernel : decode cX13_leaveOut 227 = .ok (.aload_n 0, 1)) rfl ?_
    refine re_iload (pc := 228) 3 (by decide +kernel : decode cX13_leaveOut 228 = .ok (.iload 4, 2)) rfl ?_
    obtain ⟨u13_, g14_, h⟩ := rv_b_e h
    obtain ⟨x16_, g17_, h⟩ := rv_b_e h
    have m15_ := metX13_whyNot n S a0 x4 _ g17_
    refine re_cV (pc := 230) [.int x4] m15_ (rv_okl.k ⟨rfl, rfl⟩) (rv_up.rf _ _) (by decide) (rv_ck_e g14_) ⟨by decide, rfl⟩ (Nat.le_of_ble_eq_true rfl) lVX13_304 rfl (by decide +kernel : decode cX13_leaveOut 230 = .ok (.invokevirtual 304, 3)) ?_
    rcases rv_if_e h with ⟨g18_, h⟩ | ⟨g18_, h⟩
    · refine re_if_eq_t (pc := 233) 239 (by decide +kernel : decode cX13_leaveOut 233 = .ok (.ifCond .eq 6, 3)) (by decide) g18_ ?_
      refine re_aloadn (pc := 239) 1 (by decide +kernel : decode cX13_leaveOut 239 = .ok (.aload_n 0, 1)) rfl ?_
      obtain ⟨a19_, g20_, h⟩ := rv_b_e h
      refine re_gR (pc := 240) g20_ lfX13_69 rfl (by decide +kernel : decode cX13_leaveOut 240 = .ok (.getfield 69, 3)) ?_
      refine re_iload (pc := 243) 0 (by decide +kernel : decode cX13_leaveOut 243 = .ok (.iload 10, 2)) rfl ?_
      refine re_dup2 (pc := 245) (by decide +kernel : decode cX13_leaveOut 245 = .ok (.dup2, 1)) rfl rfl ?_
      obtain ⟨x21_, g22_, h⟩ := rv_b_e h
      refine re_aI (pc := 246) g22_ (by decide +kernel : decode cX13_leaveOut 246 = .ok (.iaload, 1)) ?_
      refine re_iconst (pc := 247) (1 : Int32) (by decide +kernel : decode cX13_leaveOut 247 = .ok (.iconst 1, 1)) (by decide) ?_
      refine re_isub (pc := 248) (by decide +kernel : decode cX13_leaveOut 248 = .ok (.isub, 1)) ?_
      obtain ⟨S23_, g24_, h⟩ := rv_b_e h
      refine re_uI (pc := 249) g24_ (by decide +kernel : decode cX13_leaveOut 249 = .ok (.iastore, 1)) ?_
      refine re_aloadn (pc := 250) 1 (by decide +kernel : decode cX13_leaveOut 250 = .ok (.aload_n 0, 1)) rfl ?_
      obtain ⟨a25_, g26_, h⟩ := rv_b_e h
      refine re_gR (pc := 251) g26_ lfX13_69 rfl (by decide +kernel : decode cX13_leaveOut 251 = .ok (.getfield 69, 3)) ?_
      refine re_iload (pc := 254) 0 (by decide +kernel : decode cX13_leaveOut 254 = .ok (.iload 10, 2)) rfl ?_
      obtain ⟨x27_, g28_, h⟩ := rv_b_e h
      refine re_aI (pc := 256) g28_ (by decide +kernel : decode cX13_leaveOut 256 = .ok (.iaload, 1)) ?_
      rcases rv_if_e h with ⟨g29_, h⟩ | ⟨g29_, h⟩
      · refine re_if_ne_f (pc := 257) 268 (by decide +kernel : decode cX13_leaveOut 257 = .ok (.ifCond .ne 11, 3)) (by decide) g29_ ?_
        refine re_aloadn (pc := 260) 1 (by decide +kernel : decode cX13_leaveOut 260 = .ok (.aload_n 0, 1)) rfl ?_
        refine re_iload (pc := 261) 0 (by decide +kernel : decode cX13_leaveOut 261 = .ok (.iload 10, 2)) rfl ?_
        refine re_iloadn (pc := 263) 2 (by decide +kernel : decode cX13_leaveOut 263 = .ok (.iload_n 3, 1)) rfl ?_
        obtain ⟨u32_, g33_, h⟩ := rv_b_e h
        obtain ⟨x35_, S36_, g37_, h⟩ := rv_bp_e h
        have m34_ := metX13_end_ n S23_ a0 x4_ x3 _ _ g37_
        have z38_ : rv_same S23_ S36_ := m34_.sh rfl
        refine re_cV (pc := 264) [.int x4_, .int x3] m34_ (rv_okl.k z38_) (rv_up.sh z38_) (by decide) (rv_ck_e g33_) ⟨by decide, rfl⟩ (Nat.le_of_ble_eq_true rfl) lVX13_387 rfl (by decide +kernel : decode cX13_leaveOut 264 = .ok (.invokevirtual 387, 3)) ?_
        refine re_istoren (pc := 267) (lv1 := [(3, .int x35_), (10, .int x4_), (0, .ref a0), (4, .int x4), (5, .int x5), (6, .int x6), (7, .int x7), (8, .int x8), (9, .int x9)]) (by decide +kernel : decode cX13_leaveOut 267 = .ok (.istore_n 3, 1)) rfl (by decide) rfl ?_
        obtain ⟨x39_, g40_, h⟩ := rv_lt_e h
        refine re_iinc (pc := 268) 8 x39_ (lv1 := [(9, .int x39_), (3, .int x35_), (10, .int x4_), (0, .ref a0), (4, .int x4), (5, .int x5), (6, .int x6), (7, .int x7), (8, .int x8)]) (by decide +kernel : decode cX13_leaveOut 268 = .ok (.iinc 9 1, 3)) rfl g40_ (by decide) rfl ?_
        refine re_goto (pc := 271) 90 (by decide +kernel : decode cX13_leaveOut 271 = .ok (.goto (-181), 3)) (by decide) ?_
        refine re_sub [3, 1, 4, 5, 6, 7, 8, 0] (lv1 := [(0, .ref a0), (3, .int x35_), (4, .int x4), (5, .int x5), (6, .int x6), (7, .int x7), (8, .int x8), (9, .int x39_)]) rfl ?_
        exact hK90 a0 x35_ x4 x5 x6 x7 x8 x39_ S36_ _ _ h
      · refine re_if_ne_t (pc := 257) 268 (by decide +kernel : decode cX13_leaveOut 257 = .ok (.ifCond .ne 11, 3)) (by decide) g29_ ?_
        obtain ⟨x30_, g31_, h⟩ := rv_lt_e h
        refine re_iinc (pc := 268) 8 x30_ (lv1 := [(9, .int x30_), (10, .int x4_), (0, .ref a0), (3, .int x3), (4, .int x4), (5, .int x5), (6, .int x6), (7, .int x7), (8, .int x8)]) (by decide +kernel : decode cX13_leaveOut 268 = .ok (.iinc 9 1, 3)) rfl g31_ (by decide) rfl ?_
        refine re_goto (pc := 271) 90 (by decide +kernel : decode cX13_leaveOut 271 = .ok (.goto (-181), 3)) (by decide) ?_
        refine re_sub [2, 3, 4, 5, 6, 7, 8, 0] (lv1 := [(0, .ref a0), (3, .int x3), (4, .int x4), (5, .int x5), (6, .int x6), (7, .int x7), (8, .int x8), (9, .int x30_)]) rfl ?_
        exact hK90 a0 x3 x4 x5 x6 x7 x8 x30_ S23_ _ _ h
    · refine re_if_eq_f (pc := 233) 239 (by decide +kernel : decode cX13_leaveOut 233 = .ok (.ifCond .eq 6, 3)) (by decide) g18_ ?_
      refine re_goto (pc := 236) 268 (by decide +kernel : decode cX13_leaveOut 236 = .ok (.goto 32, 3)) (by decide) ?_
      obtain ⟨x41_, g42_, h⟩ := rv_lt_e h
      refine re_iinc (pc := 268) 8 x41_ (lv1 := [(9, .int x41_), (10, .int x4_), (0, .ref a0), (3, .int x3), (4, .int x4), (5, .int x5), (6, .int x6), (7, .int x7), (8, .int x8)]) (by decide +kernel : decode cX13_leaveOut 268 = .ok (.iinc 9 1, 3)) rfl g42_ (by decide) rfl ?_
      refine re_goto (pc := 271) 90 (by decide +kernel : decode cX13_leaveOut 271 = .ok (.goto (-181), 3)) (by decide) ?_
      refine re_sub [2, 3, 4, 5, 6, 7, 8, 0] (lv1 := [(0, .ref a0), (3, .int x3), (4, .int x4), (5, .int x5), (6, .int x6), (7, .int x7), (8, .int x8), (9, .int x41_)]) rfl ?_
      exact hK90 a0 x3 x4 x5 x6 x7 x8 x41_ S _ _ h
noncomputable def cX13_leaveOut_167 (n : Nat) (K90 : Nat → Int32 → Int32 → Int32 → Int32 → Int32 → Int32 → Int32 → rvS → Option (Int32 × rvS)) (S : rvS) (a0 : Nat) (x3 : Int32) (x4 : Int32) (x5 : Int32) (x6 : Int32) (x7 : Int32) (x8 : Int32) (x9 : Int32) (t0 : Nat) (t1 : Int32) (t2 : Int32) : Option (Int32 × rvS) :=
  (rv_uI S t0 t1 t2).bind fun S1_ =>
  (rv_gR S1_ 11 a0 24).bind fun a3_ =>
  (rv_uI S1_ a3_ (4 : Int32) (-1 : Int32)).bind fun S5_ =>
  (rv_gR S5_ 11 a0 14).bind fun a7_ =>
  (rv_aI S5_ 0 a7_ (3 : Int32)).bind fun x9_ =>
  if x5 = x9_ then (
    if x9 < 0 then (
      cX13_leaveOut_210 n K90 S5_ a0 x3 x4 x5 x6 x7 x8 x9)
    else (
      (rv_gR S5_ 11 a0 24).bind fun a13_ =>
      (rv_uI S5_ a13_ (1 : Int32) x5).bind fun S15_ =>
      (rv_gR S15_ 11 a0 24).bind fun a17_ =>
      (rv_uI S15_ a17_ ((1 : Int32) + x5) x9).bind fun S19_ =>
      cX13_leaveOut_210 n K90 S19_ a0 x3 x4 x5 x6 x7 x8 x9))
  else (
    cX13_leaveOut_210 n K90 S5_ a0 x3 x4 x5 x6 x7 x8 x9)
set_option maxRecDepth 20000 in
set_option maxHeartbeats 4000000 in
theorem eX13_leaveOut_167 (n : Nat) (K90 : Nat → Int32 → Int32 → Int32 → Int32 → Int32 → Int32 → Int32 → rvS → Option (Int32 × rvS)) (hK90 : ∀ (a0 : Nat) (x3 : Int32) (x4 : Int32) (x5 : Int32) (x6 : Int32) (x7 : Int32) (x8 : Int32) (x9 : Int32) (S : rvS) (r : Int32) (S' : rvS), K90 a0 x3 x4 x5 x6 x7 x8 x9 S = some (r, S') → rv_Ev mX13_leaveOut 4 90 [(0, .ref a0), (3, .int x3), (4, .int x4), (5, .int x5), (6, .int x6), (7, .int x7), (8, .int x8), (9, .int x9)] [] S (some (.int r)) S') (S : rvS) (a0 : Nat) (x3 : Int32) (x4 : Int32) (x5 : Int32) (x6 : Int32) (x7 : Int32) (x8 : Int32) (x9 : Int32) (t0 : Nat) (t1 : Int32) (t2 : Int32) (r : Int32) (S' : rvS) (h : cX13_leaveOut_167 n K90 S a0 x3 x4 x5 x6 x7 x8 x9 t0 t1 t2 = some (r, S')) : rv_Ev mX13_leaveOut 4 167 [(0, .ref a0), (3, .int x3), (4, .int x4), (5, .int x5), (6, .int x6), (7, .int x7), (8, .int x8), (9, .int x9)] [.int t2, .int t1, .ref t0] S (some (.int r)) S' := by
  unfold cX13_leaveOut_167 at h
  obtain ⟨S1_, g2_, h⟩ := rv_b_e h
  refine re_uI (pc := 167) g2_ (by decide +kernel : decode cX13_leaveOut 167 = .ok (.iastore, 1)) ?_
  refine re_aloadn (pc := 168) 0 (by decide +kernel : decode cX13_leaveOut 168 = .ok (.aload_n 0, 1)) rfl ?_
  obtain ⟨a3_, g4_, h⟩ := rv_b_e h
  refine re_gR (pc := 169) g4_ lfX13_39 rfl (by decide +kernel : decode cX13_leaveOut 169 = .ok (.getfield 39, 3)) ?_
  refine re_iconst (pc := 172) (4 : Int32) (by decide +kernel : decode cX13_leaveOut 172 = .ok (.iconst 4, 1)) (by decide) ?_
  refine re_iconst (pc := 173) (-1 : Int32) (by decide +kernel : decode cX13_leaveOut 173 = .ok (.iconst (-1), 1)) (by decide) ?_
  obtain ⟨S5_, g6_, h⟩ := rv_b_e h
  refine re_uI (pc := 174) g6_ (by decide +kernel : decode cX13_leaveOut 174 = .ok (.iastore, 1)) ?_
  refine re_iload (pc := 175) 3 (by decide +kernel : decode cX13_leaveOut 175 = .ok (.iload 5, 2)) rfl ?_
  refine re_aloadn (pc := 177) 0 (by decide +kernel : decode cX13_leaveOut 177 = .ok (.aload_n 0, 1)) rfl ?_
  obtain ⟨a7_, g8_, h⟩ := rv_b_e h
  refine re_gR (pc := 178) g8_ lfX13_13 rfl (by decide +kernel : decode cX13_leaveOut 178 = .ok (.getfield 13, 3)) ?_
  refine re_iconst (pc := 181) (3 : Int32) (by decide +kernel : decode cX13_leaveOut 181 = .ok (.iconst 3, 1)) (by decide) ?_
  obtain ⟨x9_, g10_, h⟩ := rv_b_e h
  refine re_aI (pc := 182) g10_ (by decide +kernel : decode cX13_leaveOut 182 = .ok (.iaload, 1)) ?_
  rcases rv_if_e h with ⟨g11_, h⟩ | ⟨g11_, h⟩
  · refine re_icmp_ne_f (pc := 183) 210 (by decide +kernel : decode cX13_leaveOut 183 = .ok (.if_icmp .ne 27, 3)) (by decide) g11_ ?_
    refine re_iload (pc := 186) 7 (by decide +kernel : decode cX13_leaveOut 186 = .ok (.iload 9, 2)) rfl ?_
    rcases rv_if_e h with ⟨g12_, h⟩ | ⟨g12_, h⟩
    · refine re_if_lt_t (pc := 188) 210 (by decide +kernel : decode cX13_leaveOut 188 = .ok (.ifCond .lt 22, 3)) (by decide) g12_ ?_
      exact eX13_leaveOut_210 n K90 hK90 S5_ a0 x3 x4 x5 x6 x7 x8 x9 _ _ h
    · refine re_if_lt_f (pc := 188) 210 (by decide +kernel : decode cX13_leaveOut 188 = .ok (.ifCond .lt 22, 3)) (by decide) g12_ ?_
      refine re_aloadn (pc := 191) 0 (by decide +kernel : decode cX13_leaveOut 191 = .ok (.aload_n 0, 1)) rfl ?_
      obtain ⟨a13_, g14_, h⟩ := rv_b_e h
      refine re_gR (pc := 192) g14_ lfX13_39 rfl (by decide +kernel : decode cX13_leaveOut 192 = .ok (.getfield 39, 3)) ?_
      refine re_iconst (pc := 195) (1 : Int32) (by decide +kernel : decode cX13_leaveOut 195 = .ok (.iconst 1, 1)) (by decide) ?_
      refine re_iload (pc := 196) 3 (by decide +kernel : decode cX13_leaveOut 196 = .ok (.iload 5, 2)) rfl ?_
      obtain ⟨S15_, g16_, h⟩ := rv_b_e h
      refine re_uI (pc := 198) g16_ (by decide +kernel : decode cX13_leaveOut 198 = .ok (.iastore, 1)) ?_
      refine re_aloadn (pc := 199) 0 (by decide +kernel : decode cX13_leaveOut 199 = .ok (.aload_n 0, 1)) rfl ?_
      obtain ⟨a17_, g18_, h⟩ := rv_b_e h
      refine re_gR (pc := 200) g18_ lfX13_39 rfl (by decide +kernel : decode cX13_leaveOut 200 = .ok (.getfield 39, 3)) ?_
      refine re_iconst (pc := 203) (1 : Int32) (by decide +kernel : decode cX13_leaveOut 203 = .ok (.iconst 1, 1)) (by decide) ?_
      refine re_iload (pc := 204) 3 (by decide +kernel : decode cX13_leaveOut 204 = .ok (.iload 5, 2)) rfl ?_
      refine re_iadd (pc := 206) (by decide +kernel : decode cX13_leaveOut 206 = .ok (.iadd, 1)) ?_
      refine re_iload (pc := 207) 7 (by decide +kernel : decode cX13_leaveOut 207 = .ok (.iload 9, 2)) rfl ?_
      obtain ⟨S19_, g20_, h⟩ := rv_b_e h
      refine re_uI (pc := 209) g20_ (by decide +kernel : decode cX13_leaveOut 209 = .ok (.iastore, 1)) ?_
      exact eX13_leaveOut_210 n K90 hK90 S19_ a0 x3 x4 x5 x6 x7 x8 x9 _ _ h
  · refine re_icmp_ne_t (pc := 183) 210 (by decide +kernel : decode cX13_leaveOut 183 = .ok (.if_icmp .ne 27, 3)) (by decide) g11_ ?_
    exact eX13_leaveOut_210 n K90 hK90 S5_ a0 x3 x4 x5 x6 x7 x8 x9 _ _ h
noncomputable def cX13_leaveOut_149 (n : Nat) (K90 : Nat → Int32 → Int32 → Int32 → Int32 → Int32 → Int32 → Int32 → rvS → Option (Int32 × rvS)) (S : rvS) (a0 : Nat) (x3 : Int32) (x4 : Int32) (x5 : Int32) (x6 : Int32) (x7 : Int32) (x8 : Int32) (x9 : Int32) (t0 : Nat) (t1 : Int32) (t2 : Int32) : Option (Int32 × rvS) :=
  (rv_uI S t0 t1 t2).bind fun S1_ =>
  (rv_gR S1_ 11 a0 24).bind fun a3_ =>
  if x5 ≤ (2 : Int32) then (
    cX13_leaveOut_167 n K90 S1_ a0 x3 x4 x5 x6 x7 x8 x9 a3_ (3 : Int32) (-1 : Int32))
  else (
    cX13_leaveOut_167 n K90 S1_ a0 x3 x4 x5 x6 x7 x8 x9 a3_ (3 : Int32) x8)
set_option maxRecDepth 20000 in
set_option maxHeartbeats 4000000 in
theorem eX13_leaveOut_149 (n : Nat) (K90 : Nat → Int32 → Int32 → Int32 → Int32 → Int32 → Int32 → Int32 → rvS → Option (Int32 × rvS)) (hK90 : ∀ (a0 : Nat) (x3 : Int32) (x4 : Int32) (x5 : Int32) (x6 : Int32) (x7 : Int32) (x8 : Int32) (x9 : Int32) (S : rvS) (r : Int32) (S' : rvS), K90 a0 x3 x4 x5 x6 x7 x8 x9 S = some (r, S') → rv_Ev mX13_leaveOut 4 90 [(0, .ref a0), (3, .int x3), (4, .int x4), (5, .int x5), (6, .int x6), (7, .int x7), (8, .int x8), (9, .int x9)] [] S (some (.int r)) S') (S : rvS) (a0 : Nat) (x3 : Int32) (x4 : Int32) (x5 : Int32) (x6 : Int32) (x7 : Int32) (x8 : Int32) (x9 : Int32) (t0 : Nat) (t1 : Int32) (t2 : Int32) (r : Int32) (S' : rvS) (h : cX13_leaveOut_149 n K90 S a0 x3 x4 x5 x6 x7 x8 x9 t0 t1 t2 = some (r, S')) : rv_Ev mX13_leaveOut 4 149 [(0, .ref a0), (3, .int x3), (4, .int x4), (5, .int x5), (6, .int x6), (7, .int x7), (8, .int x8), (9, .int x9)] [.int t2, .int t1, .ref t0] S (some (.int r)) S' := by
  unfold cX13_leaveOut_149 at h
  obtain ⟨S1_, g2_, h⟩ := rv_b_e h
  refine re_uI (pc := 149) g2_ (by decide +kernel : decode cX13_leaveOut 149 = .ok (.iastore, 1)) ?_
  refine re_aloadn (pc := 150) 0 (by decide +kernel : decode cX13_leaveOut 150 = .ok (.aload_n 0, 1)) rfl ?_
  obtain ⟨a3_, g4_, h⟩ := rv_b_e h
  refine re_gR (pc := 151) g4_ lfX13_39 rfl (by decide +kernel : decode cX13_leaveOut 151 = .ok (.getfield 39, 3)) ?_
  refine re_iconst (pc := 154) (3 : Int32) (by decide +kernel : decode cX13_leaveOut 154 = .ok (.iconst 3, 1)) (by decide) ?_
  refine re_iload (pc := 155) 3 (by decide +kernel : decode cX13_leaveOut 155 = .ok (.iload 5, 2)) rfl ?_
  refine re_iconst (pc := 157) (2 : Int32) (by decide +kernel : decode cX13_leaveOut 157 = .ok (.iconst 2, 1)) (by decide) ?_
  rcases rv_if_e h with ⟨g5_, h⟩ | ⟨g5_, h⟩
  · refine re_icmp_le_t (pc := 158) 166 (by decide +kernel : decode cX13_leaveOut 158 = .ok (.if_icmp .le 8, 3)) (by decide) g5_ ?_
    refine re_iconst (pc := 166) (-1 : Int32) (by decide +kernel : decode cX13_leaveOut 166 = .ok (.iconst (-1), 1)) (by decide) ?_
    exact eX13_leaveOut_167 n K90 hK90 S1_ a0 x3 x4 x5 x6 x7 x8 x9 a3_ (3 : Int32) (-1 : Int32) _ _ h
  · refine re_icmp_le_f (pc := 158) 166 (by decide +kernel : decode cX13_leaveOut 158 = .ok (.if_icmp .le 8, 3)) (by decide) g5_ ?_
    refine re_iload (pc := 161) 6 (by decide +kernel : decode cX13_leaveOut 161 = .ok (.iload 8, 2)) rfl ?_
    refine re_goto (pc := 163) 167 (by decide +kernel : decode cX13_leaveOut 163 = .ok (.goto 4, 3)) (by decide) ?_
    exact eX13_leaveOut_167 n K90 hK90 S1_ a0 x3 x4 x5 x6 x7 x8 x9 a3_ (3 : Int32) x8 _ _ h
noncomputable def cX13_leaveOut_111 (n : Nat) (K90 : Nat → Int32 → Int32 → Int32 → Int32 → Int32 → Int32 → Int32 → rvS → Option (Int32 × rvS)) (S : rvS) (a0 : Nat) (x3 : Int32) (x4 : Int32) (x5 : Int32) (x6 : Int32) (x7 : Int32) (x8 : Int32) (x9 : Int32) (t0 : Int32) (t1 : Int32) : Option (Int32 × rvS) :=
  if t1 ≤ t0 then (
    some (x3, S))
  else (
    (rv_gR S 11 a0 24).bind fun a2_ =>
    (rv_uI S a2_ (0 : Int32) x6).bind fun S4_ =>
    (rv_gR S4_ 11 a0 24).bind fun a6_ =>
    (rv_uI S4_ a6_ (1 : Int32) (x5 - (1 : Int32))).bind fun S8_ =>
    (rv_gR S8_ 11 a0 24).bind fun a10_ =>
    if x5 ≤ (1 : Int32) then (
      cX13_leaveOut_149 n K90 S8_ a0 x3 x4 x5 x6 x7 x8 x9 a10_ (2 : Int32) (-1 : Int32))
    else (
      cX13_leaveOut_149 n K90 S8_ a0 x3 x4 x5 x6 x7 x8 x9 a10_ (2 : Int32) x7))
set_option maxRecDepth 20000 in
set_option maxHeartbeats 4000000 in
theorem eX13_leaveOut_111 (n : Nat) (K90 : Nat → Int32 → Int32 → Int32 → Int32 → Int32 → Int32 → Int32 → rvS → Option (Int32 × rvS)) (hK90 : ∀ (a0 : Nat) (x3 : Int32) (x4 : Int32) (x5 : Int32) (x6 : Int32) (x7 : Int32) (x8 : Int32) (x9 : Int32) (S : rvS) (r : Int32) (S' : rvS), K90 a0 x3 x4 x5 x6 x7 x8 x9 S = some (r, S') → rv_Ev mX13_leaveOut 4 90 [(0, .ref a0), (3, .int x3), (4, .int x4), (5, .int x5), (6, .int x6), (7, .int x7), (8, .int x8), (9, .int x9)] [] S (some (.int r)) S') (S : rvS) (a0 : Nat) (x3 : Int32) (x4 : Int32) (x5 : Int32) (x6 : Int32) (x7 : Int32) (x8 : Int32) (x9 : Int32) (t0 : Int32) (t1 : Int32) (r : Int32) (S' : rvS) (h : cX13_leaveOut_111 n K90 S a0 x3 x4 x5 x6 x7 x8 x9 t0 t1 = some (r, S')) : rv_Ev mX13_leaveOut 4 111 [(0, .ref a0), (3, .int x3), (4, .int x4), (5, .int x5), (6, .int x6), (7, .int x7), (8, .int x8), (9, .int x9)] [.int t1, .int t0] S (some (.int r)) S' := by
  unfold cX13_leaveOut_111 at h
  rcases rv_if_e h with ⟨g1_, h⟩ | ⟨g1_, h⟩
  · refine re_icmp_ge_t (pc := 111) 274 (by decide +kernel : decode cX13_leaveOut 111 = .ok (.if_icmp .ge 163, 3)) (by decide) g1_ ?_
    refine re_iloadn (pc := 274) 1 (by decide +kernel : decode cX13_leaveOut 274 = .ok (.iload_n 3, 1)) rfl ?_
    cases h
    exact re_iret (fun ty hty => by cases hty; rfl) (by decide +kernel : decode cX13_leaveOut 275 = .ok (.ireturn, 1))
  · refine re_icmp_ge_f (pc := 111) 274 (by decide +kernel : decode cX13_leaveOut 111 = .ok (.if_icmp .ge 163, 3)) (by decide) g1_ ?_
    refine re_aloadn (pc := 114) 0 (by decide +kernel : decode cX13_leaveOut 114 = .ok (.aload_n 0, 1)) rfl ?_
    obtain ⟨a2_, g3_, h⟩ := rv_b_e h
    refine re_gR (pc := 115) g3_ lfX13_39 rfl (by decide +kernel : decode cX13_leaveOut 115 = .ok (.getfield 39, 3)) ?_
    refine re_iconst (pc := 118) (0 : Int32) (by decide +kernel : decode cX13_leaveOut 118 = .ok (.iconst 0, 1)) (by decide) ?_
    refine re_iload (pc := 119) 4 (by decide +kernel : decode cX13_leaveOut 119 = .ok (.iload 6, 2)) rfl ?_
    obtain ⟨S4_, g5_, h⟩ := rv_b_e h
    refine re_uI (pc := 121) g5_ (by decide +kernel : decode cX13_leaveOut 121 = .ok (.iastore, 1)) ?_
    refine re_aloadn (pc := 122) 0 (by decide +kernel : decode cX13_leaveOut 122 = .ok (.aload_n 0, 1)) rfl ?_
    obtain ⟨a6_, g7_, h⟩ := rv_b_e h
    refine re_gR (pc := 123) g7_ lfX13_39 rfl (by decide +kernel : decode cX13_leaveOut 123 = .ok (.getfield 39, 3)) ?_
    refine re_iconst (pc := 126) (1 : Int32) (by decide +kernel : decode cX13_leaveOut 126 = .ok (.iconst 1, 1)) (by decide) ?_
    refine re_iload (pc := 127) 3 (by decide +kernel : decode cX13_leaveOut 127 = .ok (.iload 5, 2)) rfl ?_
    refine re_iconst (pc := 129) (1 : Int32) (by decide +kernel : decode cX13_leaveOut 129 = .ok (.iconst 1, 1)) (by decide) ?_
    refine re_isub (pc := 130) (by decide +kernel : decode cX13_leaveOut 130 = .ok (.isub, 1)) ?_
    obtain ⟨S8_, g9_, h⟩ := rv_b_e h
    refine re_uI (pc := 131) g9_ (by decide +kernel : decode cX13_leaveOut 131 = .ok (.iastore, 1)) ?_
    refine re_aloadn (pc := 132) 0 (by decide +kernel : decode cX13_leaveOut 132 = .ok (.aload_n 0, 1)) rfl ?_
    obtain ⟨a10_, g11_, h⟩ := rv_b_e h
    refine re_gR (pc := 133) g11_ lfX13_39 rfl (by decide +kernel : decode cX13_leaveOut 133 = .ok (.getfield 39, 3)) ?_
    refine re_iconst (pc := 136) (2 : Int32) (by decide +kernel : decode cX13_leaveOut 136 = .ok (.iconst 2, 1)) (by decide) ?_
    refine re_iload (pc := 137) 3 (by decide +kernel : decode cX13_leaveOut 137 = .ok (.iload 5, 2)) rfl ?_
    refine re_iconst (pc := 139) (1 : Int32) (by decide +kernel : decode cX13_leaveOut 139 = .ok (.iconst 1, 1)) (by decide) ?_
    rcases rv_if_e h with ⟨g12_, h⟩ | ⟨g12_, h⟩
    · refine re_icmp_le_t (pc := 140) 148 (by decide +kernel : decode cX13_leaveOut 140 = .ok (.if_icmp .le 8, 3)) (by decide) g12_ ?_
      refine re_iconst (pc := 148) (-1 : Int32) (by decide +kernel : decode cX13_leaveOut 148 = .ok (.iconst (-1), 1)) (by decide) ?_
      exact eX13_leaveOut_149 n K90 hK90 S8_ a0 x3 x4 x5 x6 x7 x8 x9 a10_ (2 : Int32) (-1 : Int32) _ _ h
    · refine re_icmp_le_f (pc := 140) 148 (by decide +kernel : decode cX13_leaveOut 140 = .ok (.if_icmp .le 8, 3)) (by decide) g12_ ?_
      refine re_iload (pc := 143) 5 (by decide +kernel : decode cX13_leaveOut 143 = .ok (.iload 7, 2)) rfl ?_
      refine re_goto (pc := 145) 149 (by decide +kernel : decode cX13_leaveOut 145 = .ok (.goto 4, 3)) (by decide) ?_
      exact eX13_leaveOut_149 n K90 hK90 S8_ a0 x3 x4 x5 x6 x7 x8 x9 a10_ (2 : Int32) x7 _ _ h
noncomputable def cX13_leaveOut_90 (n : Nat) : Nat → rvS → Nat → Int32 → Int32 → Int32 → Int32 → Int32 → Int32 → Int32 → Option (Int32 × rvS)
  | 0, _, _, _, _, _, _, _, _, _ => none
  | k + 1, S, a0, x3, x4, x5, x6, x7, x8, x9 =>
    (rv_gR S 11 a0 14).bind fun a1_ =>
    (rv_aI S 0 a1_ (3 : Int32)).bind fun x3_ =>
    if x3_ ≤ x5 then (
      (rv_ck S 11 a0).bind fun u6_ =>
      (fnX13_whos n S a0).bind fun x9_ =>
      cX13_leaveOut_111 n (fun a0 x3 x4 x5 x6 x7 x8 x9 S => cX13_leaveOut_90 n k S a0 x3 x4 x5 x6 x7 x8 x9) S a0 x3 x4 x5 x6 x7 x8 x9 x9 x9_)
    else (
      cX13_leaveOut_111 n (fun a0 x3 x4 x5 x6 x7 x8 x9 S => cX13_leaveOut_90 n k S a0 x3 x4 x5 x6 x7 x8 x9) S a0 x3 x4 x5 x6 x7 x8 x9 x9 (1 : Int32))
set_option maxRecDepth 20000 in
set_option maxHeartbeats 4000000 in
theorem eX13_leaveOut_90 (n : Nat) : ∀ (k : Nat) (S : rvS) (a0 : Nat) (x3 : Int32) (x4 : Int32) (x5 : Int32) (x6 : Int32) (x7 : Int32) (x8 : Int32) (x9 : Int32) (r : Int32) (S' : rvS), cX13_leaveOut_90 n k S a0 x3 x4 x5 x6 x7 x8 x9 = some (r, S') → rv_Ev mX13_leaveOut 4 90 [(0, .ref a0), (3, .int x3), (4, .int x4), (5, .int x5), (6, .int x6), (7, .int x7), (8, .int x8), (9, .int x9)] [] S (some (.int r)) S' := by
  intro k
  induction k with
  | zero => intro S a0 x3 x4 x5 x6 x7 x8 x9 r S' h; exact absurd h (by simp [cX13_leaveOut_90])
  | succ k ih =>
    intro S a0 x3 x4 x5 x6 x7 x8 x9 r S' h
    unfold cX13_leaveOut_90 at h
    refine re_iload (pc := 90) 7 (by decide +kernel : decode cX13_leaveOut 90 = .ok (.iload 9, 2)) rfl ?_
    refine re_iload (pc := 92) 3 (by decide +kernel : decode cX13_leaveOut 92 = .ok (.iload 5, 2)) rfl ?_
    refine re_aloadn (pc := 94) 0 (by decide +kernel : decode cX13_leaveOut 94 = .ok (.aload_n 0, 1)) rfl ?_
    obtain ⟨a1_, g2_, h⟩ := rv_b_e h
    refine re_gR (pc := 95) g2_ lfX13_13 rfl (by decide +kernel : decode cX13_leaveOut 95 = .ok (.getfield 13, 3)) ?_
    refine re_iconst (pc := 98) (3 : Int32) (by decide +kernel : decode cX13_leaveOut 98 = .ok (.iconst 3, 1)) (by decide) ?_
    obtain ⟨x3_, g4_, h⟩ := rv_b_e h
    refine re_aI (pc := 99) g4_ (by decide +kernel : decode cX13_leaveOut 99 = .ok (.iaload, 1)) ?_
    rcases rv_if_e h with ⟨g5_, h⟩ | ⟨g5_, h⟩
    · refine re_icmp_ge_t (pc := 100) 107 (by decide +kernel : decode cX13_leaveOut 100 = .ok (.if_icmp .ge 7, 3)) (by decide) g5_ ?_
      refine re_aloadn (pc := 107) 0 (by decide +kernel : decode cX13_leaveOut 107 = .ok (.aload_n 0, 1)) rfl ?_
      obtain ⟨u6_, g7_, h⟩ := rv_b_e h
      obtain ⟨x9_, g10_, h⟩ := rv_b_e h
      have m8_ := metX13_whos n S a0 _ g10_
      refine re_cV (pc := 108) [] m8_ (rv_okl.k ⟨rfl, rfl⟩) (rv_up.rf _ _) (by decide) (rv_ck_e g7_) ⟨by decide, rfl⟩ (Nat.le_of_ble_eq_true rfl) lVX13_255 rfl (by decide +kernel : decode cX13_leaveOut 108 = .ok (.invokevirtual 255, 3)) ?_
      exact eX13_leaveOut_111 n (fun a0 x3 x4 x5 x6 x7 x8 x9 S => cX13_leaveOut_90 n k S a0 x3 x4 x5 x6 x7 x8 x9) (fun a0 x3 x4 x5 x6 x7 x8 x9 S _ _ h => ih S a0 x3 x4 x5 x6 x7 x8 x9 _ _ h) S a0 x3 x4 x5 x6 x7 x8 x9 x9 x9_ _ _ h
    · refine re_icmp_ge_f (pc := 100) 107 (by decide +kernel : decode cX13_leaveOut 100 = .ok (.if_icmp .ge 7, 3)) (by decide) g5_ ?_
      refine re_iconst (pc := 103) (1 : Int32) (by decide +kernel : decode cX13_leaveOut 103 = .ok (.iconst 1, 1)) (by decide) ?_
      refine re_goto (pc := 104) 111 (by decide +kernel : decode cX13_leaveOut 104 = .ok (.goto 7, 3)) (by decide) ?_
      exact eX13_leaveOut_111 n (fun a0 x3 x4 x5 x6 x7 x8 x9 S => cX13_leaveOut_90 n k S a0 x3 x4 x5 x6 x7 x8 x9) (fun a0 x3 x4 x5 x6 x7 x8 x9 S _ _ h => ih S a0 x3 x4 x5 x6 x7 x8 x9 _ _ h) S a0 x3 x4 x5 x6 x7 x8 x9 x9 (1 : Int32) _ _ h
noncomputable def fnX13_leaveOut (n : Nat) (S : rvS) (a0 : Nat) (x1 : Int32) (x2 : Int32) : Option (Int32 × rvS) :=
  (rv_ck S 11 a0).bind fun u1_ =>
  (fnX13_uncode n S a0 x1).bind fun S4_ =>
  (rv_gR S4_ 11 a0 24).bind fun a7_ =>
  (rv_aI S4_ 0 a7_ (0 : Int32)).bind fun x9_ =>
  (rv_gR S4_ 11 a0 24).bind fun a11_ =>
  (rv_aI S4_ 0 a11_ (1 : Int32)).bind fun x13_ =>
  (rv_gR S4_ 11 a0 14).bind fun a15_ =>
  (rv_aI S4_ 0 a15_ (3 : Int32)).bind fun x17_ =>
  if x17_ = 0 then (
    (rv_ck S4_ 11 a0).bind fun u38_ =>
    rv_bp (fnX13_leaveOutBare n S4_ a0 x1 x9_ x2) fun x41_ S42_ =>
    some (x41_, S42_))
  else (
    if x13_ = 0 then (
      some (x2, S4_))
    else (
      (rv_gR S4_ 11 a0 24).bind fun a21_ =>
      (rv_aI S4_ 0 a21_ (2 : Int32)).bind fun x23_ =>
      (rv_gR S4_ 11 a0 24).bind fun a25_ =>
      (rv_aI S4_ 0 a25_ (3 : Int32)).bind fun x27_ =>
      (rv_gR S4_ 11 a0 24).bind fun a29_ =>
      (rv_aI S4_ 0 a29_ (4 : Int32)).bind fun x31_ =>
      (rv_gR S4_ 11 a0 14).bind fun a33_ =>
      (rv_aI S4_ 0 a33_ (3 : Int32)).bind fun x35_ =>
      if x35_ ≤ x13_ then (
        cX13_leaveOut_90 n n S4_ a0 x2 x9_ x13_ x23_ x27_ x31_ (-1 : Int32))
      else (
        cX13_leaveOut_90 n n S4_ a0 x2 x9_ x13_ x23_ x27_ x31_ (0 : Int32))))
set_option maxRecDepth 20000 in
set_option maxHeartbeats 4000000 in
theorem eX13_leaveOut_in (n : Nat) (S : rvS) (a0 : Nat) (x1 : Int32) (x2 : Int32) (r : Int32) (S' : rvS) (h : fnX13_leaveOut n S a0 x1 x2 = some (r, S')) : rv_Ev mX13_leaveOut 4 0 [(0, .ref a0), (1, .int x1), (2, .int x2)] [] S (some (.int r)) S' := by
  unfold fnX13_leaveOut at h
  refine re_iloadn (pc := 0) 2 (by decide +kernel : decode cX13_leaveOut 0 = .ok (.iload_n 2, 1)) rfl ?_
  refine re_istoren (pc := 1) (lv1 := [(3, .int x2), (0, .ref a0), (1, .int x1), (2, .int x2)]) (by decide +kernel : decode cX13_leaveOut 1 = .ok (.istore_n 3, 1)) rfl (by decide) rfl ?_
  refine re_aloadn (pc := 2) 1 (by decide +kernel : decode cX13_leaveOut 2 = .ok (.aload_n 0, 1)) rfl ?_
  refine re_iloadn (pc := 3) 2 (by decide +kernel : decode cX13_leaveOut 3 = .ok (.iload_n 1, 1)) rfl ?_
  obtain ⟨u1_, g2_, h⟩ := rv_b_e h
  obtain ⟨S4_, g5_, h⟩ := rv_b_e h
  have m3_ := metX13_uncode n S a0 x1 _ g5_
  have z6_ : rv_same S S4_ := m3_.sh rfl
  refine re_cV (pc := 4) [.int x1] m3_ (rv_okl.k z6_) (rv_up.sh z6_) (by decide) (rv_ck_e g2_) ⟨by decide, rfl⟩ (Nat.le_of_ble_eq_true rfl) lVX13_372 rfl (by decide +kernel : decode cX13_leaveOut 4 = .ok (.invokevirtual 372, 3)) ?_
  refine re_aloadn (pc := 7) 1 (by decide +kernel : decode cX13_leaveOut 7 = .ok (.aload_n 0, 1)) rfl ?_
  obtain ⟨a7_, g8_, h⟩ := rv_b_e h
  refine re_gR (pc := 8) g8_ lfX13_39 rfl (by decide +kernel : decode cX13_leaveOut 8 = .ok (.getfield 39, 3)) ?_
  refine re_iconst (pc := 11) (0 : Int32) (by decide +kernel : decode cX13_leaveOut 11 = .ok (.iconst 0, 1)) (by decide) ?_
  obtain ⟨x9_, g10_, h⟩ := rv_b_e h
  refine re_aI (pc := 12) g10_ (by decide +kernel : decode cX13_leaveOut 12 = .ok (.iaload, 1)) ?_
  refine re_istore (pc := 13) (lv1 := [(4, .int x9_), (3, .int x2), (0, .ref a0), (1, .int x1), (2, .int x2)]) (by decide +kernel : decode cX13_leaveOut 13 = .ok (.istore 4, 2)) (by decide) rfl ?_
  refine re_aloadn (pc := 15) 2 (by decide +kernel : decode cX13_leaveOut 15 = .ok (.aload_n 0, 1)) rfl ?_
  obtain ⟨a11_, g12_, h⟩ := rv_b_e h
  refine re_gR (pc := 16) g12_ lfX13_39 rfl (by decide +kernel : decode cX13_leaveOut 16 = .ok (.getfield 39, 3)) ?_
  refine re_iconst (pc := 19) (1 : Int32) (by decide +kernel : decode cX13_leaveOut 19 = .ok (.iconst 1, 1)) (by decide) ?_
  obtain ⟨x13_, g14_, h⟩ := rv_b_e h
  refine re_aI (pc := 20) g14_ (by decide +kernel : decode cX13_leaveOut 20 = .ok (.iaload, 1)) ?_
  refine re_istore (pc := 21) (lv1 := [(5, .int x13_), (4, .int x9_), (3, .int x2), (0, .ref a0), (1, .int x1), (2, .int x2)]) (by decide +kernel : decode cX13_leaveOut 21 = .ok (.istore 5, 2)) (by decide) rfl ?_
  refine re_aloadn (pc := 23) 3 (by decide +kernel : decode cX13_leaveOut 23 = .ok (.aload_n 0, 1)) rfl ?_
  obtain ⟨a15_, g16_, h⟩ := rv_b_e h
  refine re_gR (pc := 24) g16_ lfX13_13 rfl (by decide +kernel : decode cX13_leaveOut 24 = .ok (.getfield 13, 3)) ?_
  refine re_iconst (pc := 27) (3 : Int32) (by decide +kernel : decode cX13_leaveOut 27 = .ok (.iconst 3, 1)) (by decide) ?_
  obtain ⟨x17_, g18_, h⟩ := rv_b_e h
  refine re_aI (pc := 28) g18_ (by decide +kernel : decode cX13_leaveOut 28 = .ok (.iaload, 1)) ?_
  rcases rv_if_e h with ⟨g19_, h⟩ | ⟨g19_, h⟩
  · refine re_if_ne_f (pc := 29) 41 (by decide +kernel : decode cX13_leaveOut 29 = .ok (.ifCond .ne 12, 3)) (by decide) g19_ ?_
    refine re_aloadn (pc := 32) 3 (by decide +kernel : decode cX13_leaveOut 32 = .ok (.aload_n 0, 1)) rfl ?_
    refine re_iloadn (pc := 33) 4 (by decide +kernel : decode cX13_leaveOut 33 = .ok (.iload_n 1, 1)) rfl ?_
    refine re_iload (pc := 34) 1 (by decide +kernel : decode cX13_leaveOut 34 = .ok (.iload 4, 2)) rfl ?_
    refine re_iloadn (pc := 36) 2 (by decide +kernel : decode cX13_leaveOut 36 = .ok (.iload_n 3, 1)) rfl ?_
    obtain ⟨u38_, g39_, h⟩ := rv_b_e h
    obtain ⟨x41_, S42_, g43_, h⟩ := rv_bp_e h
    have m40_ := metX13_leaveOutBare n S4_ a0 x1 x9_ x2 _ _ g43_
    have z44_ : rv_same S4_ S42_ := m40_.sh rfl
    refine re_cV (pc := 37) [.int x1, .int x9_, .int x2] m40_ (rv_okl.k z44_) (rv_up.sh z44_) (by decide) (rv_ck_e g39_) ⟨by decide, rfl⟩ (Nat.le_of_ble_eq_true rfl) lVX13_393 rfl (by decide +kernel : decode cX13_leaveOut 37 = .ok (.invokevirtual 393, 3)) ?_
    cases h
    exact re_iret (fun ty hty => by cases hty; rfl) (by decide +kernel : decode cX13_leaveOut 40 = .ok (.ireturn, 1))
  · refine re_if_ne_t (pc := 29) 41 (by decide +kernel : decode cX13_leaveOut 29 = .ok (.ifCond .ne 12, 3)) (by decide) g19_ ?_
    refine re_iload (pc := 41) 0 (by decide +kernel : decode cX13_leaveOut 41 = .ok (.iload 5, 2)) rfl ?_
    rcases rv_if_e h with ⟨g20_, h⟩ | ⟨g20_, h⟩
    · refine re_if_ne_f (pc := 43) 48 (by decide +kernel : decode cX13_leaveOut 43 = .ok (.ifCond .ne 5, 3)) (by decide) g20_ ?_
      refine re_iloadn (pc := 46) 2 (by decide +kernel : decode cX13_leaveOut 46 = .ok (.iload_n 3, 1)) rfl ?_
      cases h
      exact re_iret (fun ty hty => by cases hty; rfl) (by decide +kernel : decode cX13_leaveOut 47 = .ok (.ireturn, 1))
    · refine re_if_ne_t (pc := 43) 48 (by decide +kernel : decode cX13_leaveOut 43 = .ok (.ifCond .ne 5, 3)) (by decide) g20_ ?_
      refine re_aloadn (pc := 48) 3 (by decide +kernel : decode cX13_leaveOut 48 = .ok (.aload_n 0, 1)) rfl ?_
      obtain ⟨a21_, g22_, h⟩ := rv_b_e h
      refine re_gR (pc := 49) g22_ lfX13_39 rfl (by decide +kernel : decode cX13_leaveOut 49 = .ok (.getfield 39, 3)) ?_
      refine re_iconst (pc := 52) (2 : Int32) (by decide +kernel : decode cX13_leaveOut 52 = .ok (.iconst 2, 1)) (by decide) ?_
      obtain ⟨x23_, g24_, h⟩ := rv_b_e h
      refine re_aI (pc := 53) g24_ (by decide +kernel : decode cX13_leaveOut 53 = .ok (.iaload, 1)) ?_
      refine re_istore (pc := 54) (lv1 := [(6, .int x23_), (5, .int x13_), (4, .int x9_), (3, .int x2), (0, .ref a0), (1, .int x1), (2, .int x2)]) (by decide +kernel : decode cX13_leaveOut 54 = .ok (.istore 6, 2)) (by decide) rfl ?_
      refine re_aloadn (pc := 56) 4 (by decide +kernel : decode cX13_leaveOut 56 = .ok (.aload_n 0, 1)) rfl ?_
      obtain ⟨a25_, g26_, h⟩ := rv_b_e h
      refine re_gR (pc := 57) g26_ lfX13_39 rfl (by decide +kernel : decode cX13_leaveOut 57 = .ok (.getfield 39, 3)) ?_
      refine re_iconst (pc := 60) (3 : Int32) (by decide +kernel : decode cX13_leaveOut 60 = .ok (.iconst 3, 1)) (by decide) ?_
      obtain ⟨x27_, g28_, h⟩ := rv_b_e h
      refine re_aI (pc := 61) g28_ (by decide +kernel : decode cX13_leaveOut 61 = .ok (.iaload, 1)) ?_
      refine re_istore (pc := 62) (lv1 := [(7, .int x27_), (6, .int x23_), (5, .int x13_), (4, .int x9_), (3, .int x2), (0, .ref a0), (1, .int x1), (2, .int x2)]) (by decide +kernel : decode cX13_leaveOut 62 = .ok (.istore 7, 2)) (by decide) rfl ?_
      refine re_aloadn (pc := 64) 5 (by decide +kernel : decode cX13_leaveOut 64 = .ok (.aload_n 0, 1)) rfl ?_
      obtain ⟨a29_, g30_, h⟩ := rv_b_e h
      refine re_gR (pc := 65) g30_ lfX13_39 rfl (by decide +kernel : decode cX13_leaveOut 65 = .ok (.getfield 39, 3)) ?_
      refine re_iconst (pc := 68) (4 : Int32) (by decide +kernel : decode cX13_leaveOut 68 = .ok (.iconst 4, 1)) (by decide) ?_
      obtain ⟨x31_, g32_, h⟩ := rv_b_e h
      refine re_aI (pc := 69) g32_ (by decide +kernel : decode cX13_leaveOut 69 = .ok (.iaload, 1)) ?_
      refine re_istore (pc := 70) (lv1 := [(8, .int x31_), (7, .int x27_), (6, .int x23_), (5, .int x13_), (4, .int x9_), (3, .int x2), (0, .ref a0), (1, .int x1), (2, .int x2)]) (by decide +kernel : decode cX13_leaveOut 70 = .ok (.istore 8, 2)) (by decide) rfl ?_
      refine re_iload (pc := 72) 3 (by decide +kernel : decode cX13_leaveOut 72 = .ok (.iload 5, 2)) rfl ?_
      refine re_aloadn (pc := 74) 6 (by decide +kernel : decode cX13_leaveOut 74 = .ok (.aload_n 0, 1)) rfl ?_
      obtain ⟨a33_, g34_, h⟩ := rv_b_e h
      refine re_gR (pc := 75) g34_ lfX13_13 rfl (by decide +kernel : decode cX13_leaveOut 75 = .ok (.getfield 13, 3)) ?_
      refine re_iconst (pc := 78) (3 : Int32) (by decide +kernel : decode cX13_leaveOut 78 = .ok (.iconst 3, 1)) (by decide) ?_
      obtain ⟨x35_, g36_, h⟩ := rv_b_e h
      refine re_aI (pc := 79) g36_ (by decide +kernel : decode cX13_leaveOut 79 = .ok (.iaload, 1)) ?_
      rcases rv_if_e h with ⟨g37_, h⟩ | ⟨g37_, h⟩
      · refine re_icmp_ge_t (pc := 80) 87 (by decide +kernel : decode cX13_leaveOut 80 = .ok (.if_icmp .ge 7, 3)) (by decide) g37_ ?_
        refine re_iconst (pc := 87) (-1 : Int32) (by decide +kernel : decode cX13_leaveOut 87 = .ok (.iconst (-1), 1)) (by decide) ?_
        refine re_istore (pc := 88) (lv1 := [(9, .int (-1 : Int32)), (8, .int x31_), (7, .int x27_), (6, .int x23_), (5, .int x13_), (4, .int x9_), (3, .int x2), (0, .ref a0), (1, .int x1), (2, .int x2)]) (by decide +kernel : decode cX13_leaveOut 88 = .ok (.istore 9, 2)) (by decide) rfl ?_
        refine re_sub [7, 6, 5, 4, 3, 2, 1, 0] (lv1 := [(0, .ref a0), (3, .int x2), (4, .int x9_), (5, .int x13_), (6, .int x23_), (7, .int x27_), (8, .int x31_), (9, .int (-1 : Int32))]) rfl ?_
        exact eX13_leaveOut_90 n n S4_ a0 x2 x9_ x13_ x23_ x27_ x31_ (-1 : Int32) _ _ h
      · refine re_icmp_ge_f (pc := 80) 87 (by decide +kernel : decode cX13_leaveOut 80 = .ok (.if_icmp .ge 7, 3)) (by decide) g37_ ?_
        refine re_iconst (pc := 83) (0 : Int32) (by decide +kernel : decode cX13_leaveOut 83 = .ok (.iconst 0, 1)) (by decide) ?_
        refine re_goto (pc := 84) 88 (by decide +kernel : decode cX13_leaveOut 84 = .ok (.goto 4, 3)) (by decide) ?_
        refine re_istore (pc := 88) (lv1 := [(9, .int (0 : Int32)), (8, .int x31_), (7, .int x27_), (6, .int x23_), (5, .int x13_), (4, .int x9_), (3, .int x2), (0, .ref a0), (1, .int x1), (2, .int x2)]) (by decide +kernel : decode cX13_leaveOut 88 = .ok (.istore 9, 2)) (by decide) rfl ?_
        refine re_sub [7, 6, 5, 4, 3, 2, 1, 0] (lv1 := [(0, .ref a0), (3, .int x2), (4, .int x9_), (5, .int x13_), (6, .int x23_), (7, .int x27_), (8, .int x31_), (9, .int (0 : Int32))]) rfl ?_
        exact eX13_leaveOut_90 n n S4_ a0 x2 x9_ x13_ x23_ x27_ x31_ (0 : Int32) _ _ h
theorem metX13_leaveOut (n : Nat) (S : rvS) (a0 : Nat) (x1 : Int32) (x2 : Int32) (r : Int32) (S' : rvS) (h : fnX13_leaveOut n S a0 x1 x2 = some (r, S')) : rv_Met yX13_leaveOut mX13_leaveOut 4 [.ref a0, .int x1, .int x2] S (some (.int r)) S' := rv_Met.of ⟨by decide +kernel, rfl, (fun z => by first | rfl | cases z), rfl⟩ (Nat.le_of_ble_eq_true rfl) rfl (eX13_leaveOut_in n S a0 x1 x2 r S' h)
noncomputable def cX13_ever_87 (n : Nat) (K37 : Nat → Int32 → Int32 → Int32 → rvS → Option (Int32 × rvS)) (S : rvS) (a0 : Nat) (x2 : Int32) (x3 : Int32) (x4 : Int32) (x5 : Int32) : Option (Int32 × rvS) :=
  (rv_gR S 11 a0 33).bind fun a1_ =>
  (rv_gR S 11 a0 32).bind fun a3_ =>
  (rv_aI S 0 a3_ x4).bind fun x5_ =>
  (rv_uI S a1_ x5_ x5).bind fun S7_ =>
  rv_lt (x4 + (1)) fun x9_ =>
  K37 a0 x2 x3 x9_ S7_
set_option maxRecDepth 20000 in
set_option maxHeartbeats 4000000 in
theorem eX13_ever_87 (n : Nat) (K37 : Nat → Int32 → Int32 → Int32 → rvS → Option (Int32 × rvS)) (hK37 : ∀ (a0 : Nat) (x2 : Int32) (x3 : Int32) (x4 : Int32) (S : rvS) (r : Int32) (S' : rvS), K37 a0 x2 x3 x4 S = some (r, S') → rv_Ev mX13_ever 5 37 [(0, .ref a0), (2, .int x2), (3, .int x3), (4, .int x4)] [] S (some (.int r)) S') (S : rvS) (a0 : Nat) (x2 : Int32) (x3 : Int32) (x4 : Int32) (x5 : Int32) (r : Int32) (S' : rvS) (h : cX13_ever_87 n K37 S a0 x2 x3 x4 x5 = some (r, S')) : rv_Ev mX13_ever 5 87 [(0, .ref a0), (2, .int x2), (3, .int x3), (4, .int x4), (5, .int x5)] [] S (some (.int r)) S' := by
  unfold cX13_ever_87 at h
  refine re_aloadn (pc := 87) 0 (by decide +kernel : decode cX13_ever 87 = .ok (.aload_n 0, 1)) rfl ?_
  obtain ⟨a1_, g2_, h⟩ := rv_b_e h
  refine re_gR (pc := 88) g2_ lfX13_69 rfl (by decide +kernel : decode cX13_ever 88 = .ok (.getfield 69, 3)) ?_
  refine re_aloadn (pc := 91) 0 (by decide +kernel : decode cX13_ever 91 = .ok (.aload_n 0, 1)) rfl ?_
  obtain ⟨a3_, g4_, h⟩ := rv_b_e h
  refine re_gR (pc := 92) g4_ lfX13_66 rfl (by decide +kernel : decode cX13_ever 92 = .ok (.getfield 66, 3)) ?_
  refine re_iload (pc := 95) 3 (by decide +kernel : decode cX13_ever 95 = .ok (.iload 4, 2)) rfl ?_
  obtain ⟨x5_, g6_, h⟩ := rv_b_e h
  refine re_aI (pc := 97) g6_ (by decide +kernel : decode cX13_ever 97 = .ok (.iaload, 1)) ?_
  refine re_iload (pc := 98) 4 (by decide +kernel : decode cX13_ever 98 = .ok (.iload 5, 2)) rfl ?_
  obtain ⟨S7_, g8_, h⟩ := rv_b_e h
  refine re_uI (pc := 100) g8_ (by decide +kernel : decode cX13_ever 100 = .ok (.iastore, 1)) ?_
  obtain ⟨x9_, g10_, h⟩ := rv_lt_e h
  refine re_iinc (pc := 101) 3 x9_ (lv1 := [(4, .int x9_), (0, .ref a0), (2, .int x2), (3, .int x3), (5, .int x5)]) (by decide +kernel : decode cX13_ever 101 = .ok (.iinc 4 1, 3)) rfl g10_ (by decide) rfl ?_
  refine re_goto (pc := 104) 37 (by decide +kernel : decode cX13_ever 104 = .ok (.goto (-67), 3)) (by decide) ?_
  refine re_sub [1, 2, 3, 0] (lv1 := [(0, .ref a0), (2, .int x2), (3, .int x3), (4, .int x9_)]) rfl ?_
  exact hK37 a0 x2 x3 x9_ S7_ _ _ h
noncomputable def cX13_ever_49 (n : Nat) (K37 : Nat → Int32 → Int32 → Int32 → rvS → Option (Int32 × rvS)) : Nat → rvS → Nat → Int32 → Int32 → Int32 → Int32 → Int32 → Option (Int32 × rvS)
  | 0, _, _, _, _, _, _, _ => none
  | k + 1, S, a0, x2, x3, x4, x5, x6 =>
    (rv_ck S 11 a0).bind fun u1_ =>
    (fnX13_whos n S a0).bind fun x4_ =>
    if x4_ ≤ x6 then (
      cX13_ever_87 n K37 S a0 x2 x3 x4 x5)
    else (
      (rv_gR S 11 a0 32).bind fun a7_ =>
      (rv_aI S 0 a7_ x4).bind fun x9_ =>
      (rv_ck S 11 a0).bind fun u11_ =>
      (fnX13_uncode n S a0 x9_).bind fun S14_ =>
      (rv_ck S14_ 11 a0).bind fun u17_ =>
      (fnX13_whyNot n S14_ a0 x6).bind fun x20_ =>
      if x20_ = 0 then (
        rv_lt (x5 + (1)) fun x25_ =>
        rv_lt (x6 + (1)) fun x27_ =>
        cX13_ever_49 n K37 k S14_ a0 x2 x3 x4 x25_ x27_)
      else (
        rv_lt (x6 + (1)) fun x23_ =>
        cX13_ever_49 n K37 k S14_ a0 x2 x3 x4 x5 x23_))
set_option maxRecDepth 20000 in
set_option maxHeartbeats 4000000 in
theorem eX13_ever_49 (n : Nat) (K37 : Nat → Int32 → Int32 → Int32 → rvS → Option (Int32 × rvS)) (hK37 : ∀ (a0 : Nat) (x2 : Int32) (x3 : Int32) (x4 : Int32) (S : rvS) (r : Int32) (S' : rvS), K37 a0 x2 x3 x4 S = some (r, S') → rv_Ev mX13_ever 5 37 [(0, .ref a0), (2, .int x2), (3, .int x3), (4, .int x4)] [] S (some (.int r)) S') : ∀ (k : Nat) (S : rvS) (a0 : Nat) (x2 : Int32) (x3 : Int32) (x4 : Int32) (x5 : Int32) (x6 : Int32) (r : Int32) (S' : rvS), cX13_ever_49 n K37 k S a0 x2 x3 x4 x5 x6 = some (r, S') → rv_Ev mX13_ever 5 49 [(0, .ref a0), (2, .int x2), (3, .int x3), (4, .int x4), (5, .int x5), (6, .int x6)] [] S (some (.int r)) S' := by
  intro k
  induction k with
  | zero => intro S a0 x2 x3 x4 x5 x6 r S' h; exact absurd h (by simp [cX13_ever_49])
  | succ k ih =>
    intro S a0 x2 x3 x4 x5 x6 r S' h
    unfold cX13_ever_49 at h
    refine re_iload (pc := 49) 5 (by decide +kernel : decode cX13_ever 49 = .ok (.iload 6, 2)) rfl ?_
    refine re_aloadn (pc := 51) 0 (by decide +kernel : decode cX13_ever 51 = .ok (.aload_n 0, 1)) rfl ?_
    obtain ⟨u1_, g2_, h⟩ := rv_b_e h
    obtain ⟨x4_, g5_, h⟩ := rv_b_e h
    have m3_ := metX13_whos n S a0 _ g5_
    refine re_cV (pc := 52) [] m3_ (rv_okl.k ⟨rfl, rfl⟩) (rv_up.rf _ _) (by decide) (rv_ck_e g2_) ⟨by decide, rfl⟩ (Nat.le_of_ble_eq_true rfl) lVX13_255 rfl (by decide +kernel : decode cX13_ever 52 = .ok (.invokevirtual 255, 3)) ?_
    rcases rv_if_e h with ⟨g6_, h⟩ | ⟨g6_, h⟩
    · refine re_icmp_ge_t (pc := 55) 87 (by decide +kernel : decode cX13_ever 55 = .ok (.if_icmp .ge 32, 3)) (by decide) g6_ ?_
      refine re_sub [0, 1, 2, 3, 4] (lv1 := [(0, .ref a0), (2, .int x2), (3, .int x3), (4, .int x4), (5, .int x5)]) rfl ?_
      exact eX13_ever_87 n K37 hK37 S a0 x2 x3 x4 x5 _ _ h
    · refine re_icmp_ge_f (pc := 55) 87 (by decide +kernel : decode cX13_ever 55 = .ok (.if_icmp .ge 32, 3)) (by decide) g6_ ?_
      refine re_aloadn (pc := 58) 0 (by decide +kernel : decode cX13_ever 58 = .ok (.aload_n 0, 1)) rfl ?_
      refine re_aloadn (pc := 59) 0 (by decide +kernel : decode cX13_ever 59 = .ok (.aload_n 0, 1)) rfl ?_
      obtain ⟨a7_, g8_, h⟩ := rv_b_e h
      refine re_gR (pc := 60) g8_ lfX13_66 rfl (by decide +kernel : decode cX13_ever 60 = .ok (.getfield 66, 3)) ?_
      refine re_iload (pc := 63) 3 (by decide +kernel : decode cX13_ever 63 = .ok (.iload 4, 2)) rfl ?_
      obtain ⟨x9_, g10_, h⟩ := rv_b_e h
      refine re_aI (pc := 65) g10_ (by decide +kernel : decode cX13_ever 65 = .ok (.iaload, 1)) ?_
      obtain ⟨u11_, g12_, h⟩ := rv_b_e h
      obtain ⟨S14_, g15_, h⟩ := rv_b_e h
      have m13_ := metX13_uncode n S a0 x9_ _ g15_
      have z16_ : rv_same S S14_ := m13_.sh rfl
      refine re_cV (pc := 66) [.int x9_] m13_ (rv_okl.k z16_) (rv_up.sh z16_) (by decide) (rv_ck_e g12_) ⟨by decide, rfl⟩ (Nat.le_of_ble_eq_true rfl) lVX13_372 rfl (by decide +kernel : decode cX13_ever 66 = .ok (.invokevirtual 372, 3)) ?_
      refine re_aloadn (pc := 69) 0 (by decide +kernel : decode cX13_ever 69 = .ok (.aload_n 0, 1)) rfl ?_
      refine re_iload (pc := 70) 5 (by decide +kernel : decode cX13_ever 70 = .ok (.iload 6, 2)) rfl ?_
      obtain ⟨u17_, g18_, h⟩ := rv_b_e h
      obtain ⟨x20_, g21_, h⟩ := rv_b_e h
      have m19_ := metX13_whyNot n S14_ a0 x6 _ g21_
      refine re_cV (pc := 72) [.int x6] m19_ (rv_okl.k ⟨rfl, rfl⟩) (rv_up.rf _ _) (by decide) (rv_ck_e g18_) ⟨by decide, rfl⟩ (Nat.le_of_ble_eq_true rfl) lVX13_304 rfl (by decide +kernel : decode cX13_ever 72 = .ok (.invokevirtual 304, 3)) ?_
      rcases rv_if_e h with ⟨g22_, h⟩ | ⟨g22_, h⟩
      · refine re_if_ne_f (pc := 75) 81 (by decide +kernel : decode cX13_ever 75 = .ok (.ifCond .ne 6, 3)) (by decide) g22_ ?_
        obtain ⟨x25_, g26_, h⟩ := rv_lt_e h
        refine re_iinc (pc := 78) 4 x25_ (lv1 := [(5, .int x25_), (0, .ref a0), (2, .int x2), (3, .int x3), (4, .int x4), (6, .int x6)]) (by decide +kernel : decode cX13_ever 78 = .ok (.iinc 5 1, 3)) rfl g26_ (by decide) rfl ?_
        obtain ⟨x27_, g28_, h⟩ := rv_lt_e h
        refine re_iinc (pc := 81) 5 x27_ (lv1 := [(6, .int x27_), (5, .int x25_), (0, .ref a0), (2, .int x2), (3, .int x3), (4, .int x4)]) (by decide +kernel : decode cX13_ever 81 = .ok (.iinc 6 1, 3)) rfl g28_ (by decide) rfl ?_
        refine re_goto (pc := 84) 49 (by decide +kernel : decode cX13_ever 84 = .ok (.goto (-35), 3)) (by decide) ?_
        refine re_sub [2, 3, 4, 5, 1, 0] (lv1 := [(0, .ref a0), (2, .int x2), (3, .int x3), (4, .int x4), (5, .int x25_), (6, .int x27_)]) rfl ?_
        exact ih S14_ a0 x2 x3 x4 x25_ x27_ _ _ h
      · refine re_if_ne_t (pc := 75) 81 (by decide +kernel : decode cX13_ever 75 = .ok (.ifCond .ne 6, 3)) (by decide) g22_ ?_
        obtain ⟨x23_, g24_, h⟩ := rv_lt_e h
        refine re_iinc (pc := 81) 5 x23_ (lv1 := [(6, .int x23_), (0, .ref a0), (2, .int x2), (3, .int x3), (4, .int x4), (5, .int x5)]) (by decide +kernel : decode cX13_ever 81 = .ok (.iinc 6 1, 3)) rfl g24_ (by decide) rfl ?_
        refine re_goto (pc := 84) 49 (by decide +kernel : decode cX13_ever 84 = .ok (.goto (-35), 3)) (by decide) ?_
        refine re_sub [1, 2, 3, 4, 5, 0] (lv1 := [(0, .ref a0), (2, .int x2), (3, .int x3), (4, .int x4), (5, .int x5), (6, .int x23_)]) rfl ?_
        exact ih S14_ a0 x2 x3 x4 x5 x23_ _ _ h
noncomputable def cX13_ever_178 (n : Nat) (S : rvS) (x2 : Int32) (x3 : Int32) : Option (Int32 × rvS) :=
  if x2 ≤ x3 then (
    some ((0 : Int32), S))
  else (
    some ((1 : Int32), S))
set_option maxRecDepth 20000 in
set_option maxHeartbeats 4000000 in
theorem eX13_ever_178 (n : Nat) (S : rvS) (x2 : Int32) (x3 : Int32) (r : Int32) (S' : rvS) (h : cX13_ever_178 n S x2 x3 = some (r, S')) : rv_Ev mX13_ever 5 178 [(2, .int x2), (3, .int x3)] [] S (some (.int r)) S' := by
  unfold cX13_ever_178 at h
  refine re_iloadn (pc := 178) 1 (by decide +kernel : decode cX13_ever 178 = .ok (.iload_n 3, 1)) rfl ?_
  refine re_iloadn (pc := 179) 0 (by decide +kernel : decode cX13_ever 179 = .ok (.iload_n 2, 1)) rfl ?_
  rcases rv_if_e h with ⟨g1_, h⟩ | ⟨g1_, h⟩
  · refine re_icmp_ge_t (pc := 180) 187 (by decide +kernel : decode cX13_ever 180 = .ok (.if_icmp .ge 7, 3)) (by decide) g1_ ?_
    refine re_iconst (pc := 187) (0 : Int32) (by decide +kernel : decode cX13_ever 187 = .ok (.iconst 0, 1)) (by decide) ?_
    cases h
    exact re_iret (fun ty hty => by cases hty; rfl) (by decide +kernel : decode cX13_ever 188 = .ok (.ireturn, 1))
  · refine re_icmp_ge_f (pc := 180) 187 (by decide +kernel : decode cX13_ever 180 = .ok (.if_icmp .ge 7, 3)) (by decide) g1_ ?_
    refine re_iconst (pc := 183) (1 : Int32) (by decide +kernel : decode cX13_ever 183 = .ok (.iconst 1, 1)) (by decide) ?_
    refine re_goto (pc := 184) 188 (by decide +kernel : decode cX13_ever 184 = .ok (.goto 4, 3)) (by decide) ?_
    cases h
    exact re_iret (fun ty hty => by cases hty; rfl) (by decide +kernel : decode cX13_ever 188 = .ok (.ireturn, 1))
noncomputable def cX13_ever_153 (n : Nat) : Nat → rvS → Nat → Int32 → Int32 → Int32 → Option (Int32 × rvS)
  | 0, _, _, _, _, _ => none
  | k + 1, S, a0, x2, x3, x4 =>
    if x3 ≤ x4 then (
      cX13_ever_178 n S x2 x3)
    else (
      (rv_gR S 11 a0 25).bind fun a2_ =>
      (rv_aI S 0 a2_ x4).bind fun x4_ =>
      (rv_ck S 11 a0).bind fun u6_ =>
      rv_bp (fnX13_leaveOut n S a0 x4_ x3) fun x9_ S10_ =>
      rv_lt (x4 + (1)) fun x13_ =>
      cX13_ever_153 n k S10_ a0 x2 x9_ x13_)
set_option maxRecDepth 20000 in
set_option maxHeartbeats 4000000 in
theorem eX13_ever_153 (n : Nat) : ∀ (k : Nat) (S : rvS) (a0 : Nat) (x2 : Int32) (x3 : Int32) (x4 : Int32) (r : Int32) (S' : rvS), cX13_ever_153 n k S a0 x2 x3 x4 = some (r, S') → rv_Ev mX13_ever 5 153 [(0, .ref a0), (2, .int x2), (3, .int x3), (4, .int x4)] [] S (some (.int r)) S' := by
  intro k
  induction k with
  | zero => intro S a0 x2 x3 x4 r S' h; exact absurd h (by simp [cX13_ever_153])
  | succ k ih =>
    intro S a0 x2 x3 x4 r S' h
    unfold cX13_ever_153 at h
    refine re_iload (pc := 153) 3 (by decide +kernel : decode cX13_ever 153 = .ok (.iload 4, 2)) rfl ?_
    refine re_iloadn (pc := 155) 2 (by decide +kernel : decode cX13_ever 155 = .ok (.iload_n 3, 1)) rfl ?_
    rcases rv_if_e h with ⟨g1_, h⟩ | ⟨g1_, h⟩
    · refine re_icmp_ge_t (pc := 156) 178 (by decide +kernel : decode cX13_ever 156 = .ok (.if_icmp .ge 22, 3)) (by decide) g1_ ?_
      refine re_sub [1, 2] (lv1 := [(2, .int x2), (3, .int x3)]) rfl ?_
      exact eX13_ever_178 n S x2 x3 _ _ h
    · refine re_icmp_ge_f (pc := 156) 178 (by decide +kernel : decode cX13_ever 156 = .ok (.if_icmp .ge 22, 3)) (by decide) g1_ ?_
      refine re_aloadn (pc := 159) 0 (by decide +kernel : decode cX13_ever 159 = .ok (.aload_n 0, 1)) rfl ?_
      refine re_aloadn (pc := 160) 0 (by decide +kernel : decode cX13_ever 160 = .ok (.aload_n 0, 1)) rfl ?_
      obtain ⟨a2_, g3_, h⟩ := rv_b_e h
      refine re_gR (pc := 161) g3_ lfX13_43 rfl (by decide +kernel : decode cX13_ever 161 = .ok (.getfield 43, 3)) ?_
      refine re_iload (pc := 164) 3 (by decide +kernel : decode cX13_ever 164 = .ok (.iload 4, 2)) rfl ?_
      obtain ⟨x4_, g5_, h⟩ := rv_b_e h
      refine re_aI (pc := 166) g5_ (by decide +kernel : decode cX13_ever 166 = .ok (.iaload, 1)) ?_
      refine re_iloadn (pc := 167) 2 (by decide +kernel : decode cX13_ever 167 = .ok (.iload_n 3, 1)) rfl ?_
      obtain ⟨u6_, g7_, h⟩ := rv_b_e h
      obtain ⟨x9_, S10_, g11_, h⟩ := rv_bp_e h
      have m8_ := metX13_leaveOut n S a0 x4_ x3 _ _ g11_
      have z12_ : rv_same S S10_ := m8_.sh rfl
      refine re_cV (pc := 168) [.int x4_, .int x3] m8_ (rv_okl.k z12_) (rv_up.sh z12_) (by decide) (rv_ck_e g7_) ⟨by decide, rfl⟩ (Nat.le_of_ble_eq_true rfl) lVX13_390 rfl (by decide +kernel : decode cX13_ever 168 = .ok (.invokevirtual 390, 3)) ?_
      refine re_istoren (pc := 171) (lv1 := [(3, .int x9_), (0, .ref a0), (2, .int x2), (4, .int x4)]) (by decide +kernel : decode cX13_ever 171 = .ok (.istore_n 3, 1)) rfl (by decide) rfl ?_
      obtain ⟨x13_, g14_, h⟩ := rv_lt_e h
      refine re_iinc (pc := 172) 3 x13_ (lv1 := [(4, .int x13_), (3, .int x9_), (0, .ref a0), (2, .int x2)]) (by decide +kernel : decode cX13_ever 172 = .ok (.iinc 4 1, 3)) rfl g14_ (by decide) rfl ?_
      refine re_goto (pc := 175) 153 (by decide +kernel : decode cX13_ever 175 = .ok (.goto (-22), 3)) (by decide) ?_
      refine re_sub [2, 3, 1, 0] (lv1 := [(0, .ref a0), (2, .int x2), (3, .int x9_), (4, .int x13_)]) rfl ?_
      exact ih S10_ a0 x2 x9_ x13_ _ _ h
noncomputable def cX13_ever_110 (n : Nat) : Nat → rvS → Nat → Int32 → Int32 → Int32 → Option (Int32 × rvS)
  | 0, _, _, _, _, _ => none
  | k + 1, S, a0, x2, x3, x4 =>
    if x2 ≤ x4 then (
      cX13_ever_153 n n S a0 x2 x3 (0 : Int32))
    else (
      (rv_gR S 11 a0 33).bind fun a2_ =>
      (rv_gR S 11 a0 32).bind fun a4_ =>
      (rv_aI S 0 a4_ x4).bind fun x6_ =>
      (rv_aI S 0 a2_ x6_).bind fun x8_ =>
      if x8_ = 0 then (
        (rv_gR S 11 a0 32).bind fun a13_ =>
        (rv_aI S 0 a13_ x4).bind fun x15_ =>
        (rv_ck S 11 a0).bind fun u17_ =>
        rv_bp (fnX13_end_ n S a0 x15_ x3) fun x20_ S21_ =>
        rv_lt (x4 + (1)) fun x24_ =>
        cX13_ever_110 n k S21_ a0 x2 x20_ x24_)
      else (
        rv_lt (x4 + (1)) fun x11_ =>
        cX13_ever_110 n k S a0 x2 x3 x11_))
set_option maxRecDepth 20000 in
set_option maxHeartbeats 4000000 in
theorem eX13_ever_110 (n : Nat) : ∀ (k : Nat) (S : rvS) (a0 : Nat) (x2 : Int32) (x3 : Int32) (x4 : Int32) (r : Int32) (S' : rvS), cX13_ever_110 n k S a0 x2 x3 x4 = some (r, S') → rv_Ev mX13_ever 5 110 [(0, .ref a0), (2, .int x2), (3, .int x3), (4, .int x4)] [] S (some (.int r)) S' := by
  intro k
  induction k with
  | zero => intro S a0 x2 x3 x4 r S' h; exact absurd h (by simp [cX13_ever_110])
  | succ k ih =>
    intro S a0 x2 x3 x4 r S' h
    unfold cX13_ever_110 at h
    refine re_iload (pc := 110) 3 (by decide +kernel : decode cX13_ever 110 = .ok (.iload 4, 2)) rfl ?_
    refine re_iloadn (pc := 112) 1 (by decide +kernel : decode cX13_ever 112 = .ok (.iload_n 2, 1)) rfl ?_
    rcases rv_if_e h with ⟨g1_, h⟩ | ⟨g1_, h⟩
    · refine re_icmp_ge_t (pc := 113) 150 (by decide +kernel : decode cX13_ever 113 = .ok (.if_icmp .ge 37, 3)) (by decide) g1_ ?_
      refine re_iconst (pc := 150) (0 : Int32) (by decide +kernel : decode cX13_ever 150 = .ok (.iconst 0, 1)) (by decide) ?_
      refine re_istore (pc := 151) (lv1 := [(4, .int (0 : Int32)), (0, .ref a0), (2, .int x2), (3, .int x3)]) (by decide +kernel : decode cX13_ever 151 = .ok (.istore 4, 2)) (by decide) rfl ?_
      refine re_sub [1, 2, 3, 0] (lv1 := [(0, .ref a0), (2, .int x2), (3, .int x3), (4, .int (0 : Int32))]) rfl ?_
      exact eX13_ever_153 n n S a0 x2 x3 (0 : Int32) _ _ h
    · refine re_icmp_ge_f (pc := 113) 150 (by decide +kernel : decode cX13_ever 113 = .ok (.if_icmp .ge 37, 3)) (by decide) g1_ ?_
      refine re_aloadn (pc := 116) 0 (by decide +kernel : decode cX13_ever 116 = .ok (.aload_n 0, 1)) rfl ?_
      obtain ⟨a2_, g3_, h⟩ := rv_b_e h
      refine re_gR (pc := 117) g3_ lfX13_69 rfl (by decide +kernel : decode cX13_ever 117 = .ok (.getfield 69, 3)) ?_
      refine re_aloadn (pc := 120) 0 (by decide +kernel : decode cX13_ever 120 = .ok (.aload_n 0, 1)) rfl ?_
      obtain ⟨a4_, g5_, h⟩ := rv_b_e h
      refine re_gR (pc := 121) g5_ lfX13_66 rfl (by decide +kernel : decode cX13_ever 121 = .ok (.getfield 66, 3)) ?_
      refine re_iload (pc := 124) 3 (by decide +kernel : decode cX13_ever 124 = .ok (.iload 4, 2)) rfl ?_
      obtain ⟨x6_, g7_, h⟩ := rv_b_e h
      refine re_aI (pc := 126) g7_ (by decide +kernel : decode cX13_ever 126 = .ok (.iaload, 1)) ?_
      obtain ⟨x8_, g9_, h⟩ := rv_b_e h
      refine re_aI (pc := 127) g9_ (by decide +kernel : decode cX13_ever 127 = .ok (.iaload, 1)) ?_
      rcases rv_if_e h with ⟨g10_, h⟩ | ⟨g10_, h⟩
      · refine re_if_ne_f (pc := 128) 144 (by decide +kernel : decode cX13_ever 128 = .ok (.ifCond .ne 16, 3)) (by decide) g10_ ?_
        refine re_aloadn (pc := 131) 0 (by decide +kernel : decode cX13_ever 131 = .ok (.aload_n 0, 1)) rfl ?_
        refine re_aloadn (pc := 132) 0 (by decide +kernel : decode cX13_ever 132 = .ok (.aload_n 0, 1)) rfl ?_
        obtain ⟨a13_, g14_, h⟩ := rv_b_e h
        refine re_gR (pc := 133) g14_ lfX13_66 rfl (by decide +kernel : decode cX13_ever 133 = .ok (.getfield 66, 3)) ?_
        refine re_iload (pc := 136) 3 (by decide +kernel : decode cX13_ever 136 = .ok (.iload 4, 2)) rfl ?_
        obtain ⟨x15_, g16_, h⟩ := rv_b_e h
        refine re_aI (pc := 138) g16_ (by decide +kernel : decode cX13_ever 138 = .ok (.iaload, 1)) ?_
        refine re_iloadn (pc := 139) 2 (by decide +kernel : decode cX13_ever 139 = .ok (.iload_n 3, 1)) rfl ?_
        obtain ⟨u17_, g18_, h⟩ := rv_b_e h
        obtain ⟨x20_, S21_, g22_, h⟩ := rv_bp_e h
        have m19_ := metX13_end_ n S a0 x15_ x3 _ _ g22_
        have z23_ : rv_same S S21_ := m19_.sh rfl
        refine re_cV (pc := 140) [.int x15_, .int x3] m19_ (rv_okl.k z23_) (rv_up.sh z23_) (by decide) (rv_ck_e g18_) ⟨by decide, rfl⟩ (Nat.le_of_ble_eq_true rfl) lVX13_387 rfl (by decide +kernel : decode cX13_ever 140 = .ok (.invokevirtual 387, 3)) ?_
        refine re_istoren (pc := 143) (lv1 := [(3, .int x20_), (0, .ref a0), (2, .int x2), (4, .int x4)]) (by decide +kernel : decode cX13_ever 143 = .ok (.istore_n 3, 1)) rfl (by decide) rfl ?_
        obtain ⟨x24_, g25_, h⟩ := rv_lt_e h
        refine re_iinc (pc := 144) 3 x24_ (lv1 := [(4, .int x24_), (3, .int x20_), (0, .ref a0), (2, .int x2)]) (by decide +kernel : decode cX13_ever 144 = .ok (.iinc 4 1, 3)) rfl g25_ (by decide) rfl ?_
        refine re_goto (pc := 147) 110 (by decide +kernel : decode cX13_ever 147 = .ok (.goto (-37), 3)) (by decide) ?_
        refine re_sub [2, 3, 1, 0] (lv1 := [(0, .ref a0), (2, .int x2), (3, .int x20_), (4, .int x24_)]) rfl ?_
        exact ih S21_ a0 x2 x20_ x24_ _ _ h
      · refine re_if_ne_t (pc := 128) 144 (by decide +kernel : decode cX13_ever 128 = .ok (.ifCond .ne 16, 3)) (by decide) g10_ ?_
        obtain ⟨x11_, g12_, h⟩ := rv_lt_e h
        refine re_iinc (pc := 144) 3 x11_ (lv1 := [(4, .int x11_), (0, .ref a0), (2, .int x2), (3, .int x3)]) (by decide +kernel : decode cX13_ever 144 = .ok (.iinc 4 1, 3)) rfl g12_ (by decide) rfl ?_
        refine re_goto (pc := 147) 110 (by decide +kernel : decode cX13_ever 147 = .ok (.goto (-37), 3)) (by decide) ?_
        refine re_sub [1, 2, 3, 0] (lv1 := [(0, .ref a0), (2, .int x2), (3, .int x3), (4, .int x11_)]) rfl ?_
        exact ih S a0 x2 x3 x11_ _ _ h
noncomputable def cX13_ever_37 (n : Nat) : Nat → rvS → Nat → Int32 → Int32 → Int32 → Option (Int32 × rvS)
  | 0, _, _, _, _, _ => none
  | k + 1, S, a0, x2, x3, x4 =>
    if x2 ≤ x4 then (
      cX13_ever_110 n n S a0 x2 x3 (0 : Int32))
    else (
      cX13_ever_49 n (fun a0 x2 x3 x4 S => cX13_ever_37 n k S a0 x2 x3 x4) n S a0 x2 x3 x4 (0 : Int32) (0 : Int32))
set_option maxRecDepth 20000 in
set_option maxHeartbeats 4000000 in
theorem eX13_ever_37 (n : Nat) : ∀ (k : Nat) (S : rvS) (a0 : Nat) (x2 : Int32) (x3 : Int32) (x4 : Int32) (r : Int32) (S' : rvS), cX13_ever_37 n k S a0 x2 x3 x4 = some (r, S') → rv_Ev mX13_ever 5 37 [(0, .ref a0), (2, .int x2), (3, .int x3), (4, .int x4)] [] S (some (.int r)) S' := by
  intro k
  induction k with
  | zero => intro S a0 x2 x3 x4 r S' h; exact absurd h (by simp [cX13_ever_37])
  | succ k ih =>
    intro S a0 x2 x3 x4 r S' h
    unfold cX13_ever_37 at h
    refine re_iload (pc := 37) 3 (by decide +kernel : decode cX13_ever 37 = .ok (.iload 4, 2)) rfl ?_
    refine re_iloadn (pc := 39) 1 (by decide +kernel : decode cX13_ever 39 = .ok (.iload_n 2, 1)) rfl ?_
    rcases rv_if_e h with ⟨g1_, h⟩ | ⟨g1_, h⟩
    · refine re_icmp_ge_t (pc := 40) 107 (by decide +kernel : decode cX13_ever 40 = .ok (.if_icmp .ge 67, 3)) (by decide) g1_ ?_
      refine re_iconst (pc := 107) (0 : Int32) (by decide +kernel : decode cX13_ever 107 = .ok (.iconst 0, 1)) (by decide) ?_
      refine re_istore (pc := 108) (lv1 := [(4, .int (0 : Int32)), (0, .ref a0), (2, .int x2), (3, .int x3)]) (by decide +kernel : decode cX13_ever 108 = .ok (.istore 4, 2)) (by decide) rfl ?_
      refine re_sub [1, 2, 3, 0] (lv1 := [(0, .ref a0), (2, .int x2), (3, .int x3), (4, .int (0 : Int32))]) rfl ?_
      exact eX13_ever_110 n n S a0 x2 x3 (0 : Int32) _ _ h
    · refine re_icmp_ge_f (pc := 40) 107 (by decide +kernel : decode cX13_ever 40 = .ok (.if_icmp .ge 67, 3)) (by decide) g1_ ?_
      refine re_iconst (pc := 43) (0 : Int32) (by decide +kernel : decode cX13_ever 43 = .ok (.iconst 0, 1)) (by decide) ?_
      refine re_istore (pc := 44) (lv1 := [(5, .int (0 : Int32)), (0, .ref a0), (2, .int x2), (3, .int x3), (4, .int x4)]) (by decide +kernel : decode cX13_ever 44 = .ok (.istore 5, 2)) (by decide) rfl ?_
      refine re_iconst (pc := 46) (0 : Int32) (by decide +kernel : decode cX13_ever 46 = .ok (.iconst 0, 1)) (by decide) ?_
      refine re_istore (pc := 47) (lv1 := [(6, .int (0 : Int32)), (5, .int (0 : Int32)), (0, .ref a0), (2, .int x2), (3, .int x3), (4, .int x4)]) (by decide +kernel : decode cX13_ever 47 = .ok (.istore 6, 2)) (by decide) rfl ?_
      refine re_sub [2, 3, 4, 5, 1, 0] (lv1 := [(0, .ref a0), (2, .int x2), (3, .int x3), (4, .int x4), (5, .int (0 : Int32)), (6, .int (0 : Int32))]) rfl ?_
      exact eX13_ever_49 n (fun a0 x2 x3 x4 S => cX13_ever_37 n k S a0 x2 x3 x4) (fun a0 x2 x3 x4 S _ _ h => ih S a0 x2 x3 x4 _ _ h) n S a0 x2 x3 x4 (0 : Int32) (0 : Int32) _ _ h
noncomputable def fnX13_ever (n : Nat) (S : rvS) (a0 : Nat) (x1 : Int32) : Option (Int32 × rvS) :=
  (rv_pI S 11 a0 0 (0 : Int32)).bind fun S1_ =>
  (rv_ck S1_ 11 a0).bind fun u3_ =>
  (fnX13_lay n S1_ a0).bind fun S6_ =>
  (rv_ck S6_ 11 a0).bind fun u9_ =>
  (fnX13_isCoin n S6_ a0 x1).bind fun x12_ =>
  if x12_ = 0 then (
    some ((-1 : Int32), S6_))
  else (
    (rv_ck S6_ 11 a0).bind fun u15_ =>
    rv_bp (fnX13_reach n S6_ a0 x1 (-1 : Int32) (-1 : Int32)) fun x18_ S19_ =>
    (rv_gI S19_ 11 a0 35).bind fun x22_ =>
    cX13_ever_37 n n S19_ a0 x22_ (0 : Int32) (0 : Int32))
set_option maxRecDepth 20000 in
set_option maxHeartbeats 4000000 in
theorem eX13_ever_in (n : Nat) (S : rvS) (a0 : Nat) (x1 : Int32) (r : Int32) (S' : rvS) (h : fnX13_ever n S a0 x1 = some (r, S')) : rv_Ev mX13_ever 5 0 [(0, .ref a0), (1, .int x1)] [] S (some (.int r)) S' := by
  unfold fnX13_ever at h
  refine re_aloadn (pc := 0) 0 (by decide +kernel : decode cX13_ever 0 = .ok (.aload_n 0, 1)) rfl ?_
  refine re_iconst (pc := 1) (0 : Int32) (by decide +kernel : decode cX13_ever 1 = .ok (.iconst 0, 1)) (by decide) ?_
  obtain ⟨S1_, g2_, h⟩ := rv_b_e h
  refine re_pI (pc := 2) g2_ lfX13_99 rfl rfl rfl rfl (by decide +kernel : decode cX13_ever 2 = .ok (.putfield 99, 3)) ?_
  refine re_aloadn (pc := 5) 0 (by decide +kernel : decode cX13_ever 5 = .ok (.aload_n 0, 1)) rfl ?_
  obtain ⟨u3_, g4_, h⟩ := rv_b_e h
  obtain ⟨S6_, g7_, h⟩ := rv_b_e h
  have m5_ := metX13_lay n S1_ a0 _ g7_
  have z8_ : rv_same S1_ S6_ := m5_.sh rfl
  refine re_cV (pc := 6) [] m5_ (rv_okl.k z8_) (rv_up.sh z8_) (by decide) (rv_ck_e g4_) ⟨by decide, rfl⟩ (Nat.le_of_ble_eq_true rfl) lVX13_187 rfl (by decide +kernel : decode cX13_ever 6 = .ok (.invokevirtual 187, 3)) ?_
  refine re_aloadn (pc := 9) 0 (by decide +kernel : decode cX13_ever 9 = .ok (.aload_n 0, 1)) rfl ?_
  refine re_iloadn (pc := 10) 1 (by decide +kernel : decode cX13_ever 10 = .ok (.iload_n 1, 1)) rfl ?_
  obtain ⟨u9_, g10_, h⟩ := rv_b_e h
  obtain ⟨x12_, g13_, h⟩ := rv_b_e h
  have m11_ := metX13_isCoin n S6_ a0 x1 _ g13_
  refine re_cV (pc := 11) [.int x1] m11_ (rv_okl.k ⟨rfl, rfl⟩) (rv_up.rf _ _) (by decide) (rv_ck_e g10_) ⟨by decide, rfl⟩ (Nat.le_of_ble_eq_true rfl) lVX13_277 rfl (by decide +kernel : decode cX13_ever 11 = .ok (.invokevirtual 277, 3)) ?_
  rcases rv_if_e h with ⟨g14_, h⟩ | ⟨g14_, h⟩
  · refine re_if_ne_f (pc := 14) 19 (by decide +kernel : decode cX13_ever 14 = .ok (.ifCond .ne 5, 3)) (by decide) g14_ ?_
    refine re_iconst (pc := 17) (-1 : Int32) (by decide +kernel : decode cX13_ever 17 = .ok (.iconst (-1), 1)) (by decide) ?_
    cases h
    exact re_iret (fun ty hty => by cases hty; rfl) (by decide +kernel : decode cX13_ever 18 = .ok (.ireturn, 1))
  · refine re_if_ne_t (pc := 14) 19 (by decide +kernel : decode cX13_ever 14 = .ok (.ifCond .ne 5, 3)) (by decide) g14_ ?_
    refine re_aloadn (pc := 19) 0 (by decide +kernel : decode cX13_ever 19 = .ok (.aload_n 0, 1)) rfl ?_
    refine re_iloadn (pc := 20) 1 (by decide +kernel : decode cX13_ever 20 = .ok (.iload_n 1, 1)) rfl ?_
    refine re_iconst (pc := 21) (-1 : Int32) (by decide +kernel : decode cX13_ever 21 = .ok (.iconst (-1), 1)) (by decide) ?_
    refine re_iconst (pc := 22) (-1 : Int32) (by decide +kernel : decode cX13_ever 22 = .ok (.iconst (-1), 1)) (by decide) ?_
    obtain ⟨u15_, g16_, h⟩ := rv_b_e h
    obtain ⟨x18_, S19_, g20_, h⟩ := rv_bp_e h
    have m17_ := metX13_reach n S6_ a0 x1 (-1 : Int32) (-1 : Int32) _ _ g20_
    have z21_ : rv_same S6_ S19_ := m17_.sh rfl
    refine re_cV (pc := 23) [.int x1, .int (-1 : Int32), .int (-1 : Int32)] m17_ (rv_okl.k z21_) (rv_up.sh z21_) (by decide) (rv_ck_e g16_) ⟨by decide, rfl⟩ (Nat.le_of_ble_eq_true rfl) lVX13_378 rfl (by decide +kernel : decode cX13_ever 23 = .ok (.invokevirtual 378, 3)) ?_
    refine re_pop (pc := 26) (by decide +kernel : decode cX13_ever 26 = .ok (.pop, 1)) rfl ?_
    refine re_aloadn (pc := 27) 0 (by decide +kernel : decode cX13_ever 27 = .ok (.aload_n 0, 1)) rfl ?_
    obtain ⟨x22_, g23_, h⟩ := rv_b_e h
    refine re_gI (pc := 28) g23_ lfX13_369 rfl (by decide +kernel : decode cX13_ever 28 = .ok (.getfield 369, 3)) ?_
    refine re_istoren (pc := 31) (lv1 := [(2, .int x22_), (0, .ref a0), (1, .int x1)]) (by decide +kernel : decode cX13_ever 31 = .ok (.istore_n 2, 1)) rfl (by decide) rfl ?_
    refine re_iconst (pc := 32) (0 : Int32) (by decide +kernel : decode cX13_ever 32 = .ok (.iconst 0, 1)) (by decide) ?_
    refine re_istoren (pc := 33) (lv1 := [(3, .int (0 : Int32)), (2, .int x22_), (0, .ref a0), (1, .int x1)]) (by decide +kernel : decode cX13_ever 33 = .ok (.istore_n 3, 1)) rfl (by decide) rfl ?_
    refine re_iconst (pc := 34) (0 : Int32) (by decide +kernel : decode cX13_ever 34 = .ok (.iconst 0, 1)) (by decide) ?_
    refine re_istore (pc := 35) (lv1 := [(4, .int (0 : Int32)), (3, .int (0 : Int32)), (2, .int x22_), (0, .ref a0), (1, .int x1)]) (by decide +kernel : decode cX13_ever 35 = .ok (.istore 4, 2)) (by decide) rfl ?_
    refine re_sub [3, 2, 1, 0] (lv1 := [(0, .ref a0), (2, .int x22_), (3, .int (0 : Int32)), (4, .int (0 : Int32))]) rfl ?_
    exact eX13_ever_37 n n S19_ a0 x22_ (0 : Int32) (0 : Int32) _ _ h
theorem metX13_ever (n : Nat) (S : rvS) (a0 : Nat) (x1 : Int32) (r : Int32) (S' : rvS) (h : fnX13_ever n S a0 x1 = some (r, S')) : rv_Met yX13_ever mX13_ever 5 [.ref a0, .int x1] S (some (.int r)) S' := rv_Met.of ⟨by decide +kernel, rfl, (fun z => by first | rfl | cases z), rfl⟩ (Nat.le_of_ble_eq_true rfl) rfl (eX13_ever_in n S a0 x1 r S' h)
noncomputable def fnX13_ofDebt (n : Nat) (S : rvS) (a0 : Nat) (x1 : Int32) (x2 : Int32) : Option Int32 :=
  (rv_gR S 11 a0 14).bind fun a1_ =>
  (rv_aI S 0 a1_ (((372 : Int32) + ((4 : Int32) * x1)) + x2)).bind fun x3_ =>
  some x3_
set_option maxRecDepth 20000 in
set_option maxHeartbeats 4000000 in
theorem eX13_ofDebt_in (n : Nat) (S : rvS) (a0 : Nat) (x1 : Int32) (x2 : Int32) (r : Int32) (h : fnX13_ofDebt n S a0 x1 x2 = some r) : rv_Ev mX13_ofDebt 0 0 [(0, .ref a0), (1, .int x1), (2, .int x2)] [] S (some (.int r)) S := by
  unfold fnX13_ofDebt at h
  refine re_aloadn (pc := 0) 0 (by decide +kernel : decode cX13_ofDebt 0 = .ok (.aload_n 0, 1)) rfl ?_
  obtain ⟨a1_, g2_, h⟩ := rv_b_e h
  refine re_gR (pc := 1) g2_ lfX13_13 rfl (by decide +kernel : decode cX13_ofDebt 1 = .ok (.getfield 13, 3)) ?_
  refine re_sipush (pc := 4) (372 : Int32) (by decide +kernel : decode cX13_ofDebt 4 = .ok (.sipush 372, 3)) (by decide) ?_
  refine re_iconst (pc := 7) (4 : Int32) (by decide +kernel : decode cX13_ofDebt 7 = .ok (.iconst 4, 1)) (by decide) ?_
  refine re_iloadn (pc := 8) 1 (by decide +kernel : decode cX13_ofDebt 8 = .ok (.iload_n 1, 1)) rfl ?_
  refine re_imul (pc := 9) (by decide +kernel : decode cX13_ofDebt 9 = .ok (.imul, 1)) ?_
  refine re_iadd (pc := 10) (by decide +kernel : decode cX13_ofDebt 10 = .ok (.iadd, 1)) ?_
  refine re_iloadn (pc := 11) 2 (by decide +kernel : decode cX13_ofDebt 11 = .ok (.iload_n 2, 1)) rfl ?_
  refine re_iadd (pc := 12) (by decide +kernel : decode cX13_ofDebt 12 = .ok (.iadd, 1)) ?_
  obtain ⟨x3_, g4_, h⟩ := rv_b_e h
  refine re_aI (pc := 13) g4_ (by decide +kernel : decode cX13_ofDebt 13 = .ok (.iaload, 1)) ?_
  cases h
  exact re_iret (fun ty hty => by cases hty; rfl) (by decide +kernel : decode cX13_ofDebt 14 = .ok (.ireturn, 1))
theorem metX13_ofDebt (n : Nat) (S : rvS) (a0 : Nat) (x1 : Int32) (x2 : Int32) (r : Int32) (h : fnX13_ofDebt n S a0 x1 x2 = some r) : rv_Met yX13_ofDebt mX13_ofDebt 0 [.ref a0, .int x1, .int x2] S (some (.int r)) S := rv_Met.of ⟨by decide +kernel, rfl, (fun z => by first | rfl | cases z), rfl⟩ (Nat.le_of_ble_eq_true rfl) rfl (eX13_ofDebt_in n S a0 x1 x2 r h)
noncomputable def fnX13_isDebt (n : Nat) (S : rvS) (a0 : Nat) (x1 : Int32) : Option Int32 :=
  if x1 < 0 then (
    some (0 : Int32))
  else (
    (rv_gR S 11 a0 14).bind fun a2_ =>
    (rv_aI S 0 a2_ (2 : Int32)).bind fun x4_ =>
    if x4_ ≤ x1 then (
      some (0 : Int32))
    else (
      some (1 : Int32)))
set_option maxRecDepth 20000 in
set_option maxHeartbeats 4000000 in
theorem eX13_isDebt_in (n : Nat) (S : rvS) (a0 : Nat) (x1 : Int32) (r : Int32) (h : fnX13_isDebt n S a0 x1 = some r) : rv_Ev mX13_isDebt 0 0 [(0, .ref a0), (1, .int x1)] [] S (some (.int r)) S := by
  unfold fnX13_isDebt at h
  refine re_iloadn (pc := 0) 1 (by decide +kernel : decode cX13_isDebt 0 = .ok (.iload_n 1, 1)) rfl ?_
  rcases rv_if_e h with ⟨g1_, h⟩ | ⟨g1_, h⟩
  · refine re_if_lt_t (pc := 1) 18 (by decide +kernel : decode cX13_isDebt 1 = .ok (.ifCond .lt 17, 3)) (by decide) g1_ ?_
    refine re_iconst (pc := 18) (0 : Int32) (by decide +kernel : decode cX13_isDebt 18 = .ok (.iconst 0, 1)) (by decide) ?_
    cases h
    exact re_iret (fun ty hty => by cases hty; rfl) (by decide +kernel : decode cX13_isDebt 19 = .ok (.ireturn, 1))
  · refine re_if_lt_f (pc := 1) 18 (by decide +kernel : decode cX13_isDebt 1 = .ok (.ifCond .lt 17, 3)) (by decide) g1_ ?_
    refine re_iloadn (pc := 4) 1 (by decide +kernel : decode cX13_isDebt 4 = .ok (.iload_n 1, 1)) rfl ?_
    refine re_aloadn (pc := 5) 0 (by decide +kernel : decode cX13_isDebt 5 = .ok (.aload_n 0, 1)) rfl ?_
    obtain ⟨a2_, g3_, h⟩ := rv_b_e h
    refine re_gR (pc := 6) g3_ lfX13_13 rfl (by decide +kernel : decode cX13_isDebt 6 = .ok (.getfield 13, 3)) ?_
    refine re_iconst (pc := 9) (2 : Int32) (by decide +kernel : decode cX13_isDebt 9 = .ok (.iconst 2, 1)) (by decide) ?_
    obtain ⟨x4_, g5_, h⟩ := rv_b_e h
    refine re_aI (pc := 10) g5_ (by decide +kernel : decode cX13_isDebt 10 = .ok (.iaload, 1)) ?_
    rcases rv_if_e h with ⟨g6_, h⟩ | ⟨g6_, h⟩
    · refine re_icmp_ge_t (pc := 11) 18 (by decide +kernel : decode cX13_isDebt 11 = .ok (.if_icmp .ge 7, 3)) (by decide) g6_ ?_
      refine re_iconst (pc := 18) (0 : Int32) (by decide +kernel : decode cX13_isDebt 18 = .ok (.iconst 0, 1)) (by decide) ?_
      cases h
      exact re_iret (fun ty hty => by cases hty; rfl) (by decide +kernel : decode cX13_isDebt 19 = .ok (.ireturn, 1))
    · refine re_icmp_ge_f (pc := 11) 18 (by decide +kernel : decode cX13_isDebt 11 = .ok (.if_icmp .ge 7, 3)) (by decide) g6_ ?_
      refine re_iconst (pc := 14) (1 : Int32) (by decide +kernel : decode cX13_isDebt 14 = .ok (.iconst 1, 1)) (by decide) ?_
      refine re_goto (pc := 15) 19 (by decide +kernel : decode cX13_isDebt 15 = .ok (.goto 4, 3)) (by decide) ?_
      cases h
      exact re_iret (fun ty hty => by cases hty; rfl) (by decide +kernel : decode cX13_isDebt 19 = .ok (.ireturn, 1))
theorem metX13_isDebt (n : Nat) (S : rvS) (a0 : Nat) (x1 : Int32) (r : Int32) (h : fnX13_isDebt n S a0 x1 = some r) : rv_Met yX13_isDebt mX13_isDebt 0 [.ref a0, .int x1] S (some (.int r)) S := rv_Met.of ⟨by decide +kernel, rfl, (fun z => by first | rfl | cases z), rfl⟩ (Nat.le_of_ble_eq_true rfl) rfl (eX13_isDebt_in n S a0 x1 r h)
noncomputable def cX13_debt_21 (n : Nat) (S : rvS) (a0 : Nat) : Option (Int32 × rvS) :=
  (rv_ck S 11 a0).bind fun u1_ =>
  rv_bp (fnX13_refuse n S a0) fun x4_ S5_ =>
  some (x4_, S5_)
set_option maxRecDepth 20000 in
set_option maxHeartbeats 4000000 in
theorem eX13_debt_21 (n : Nat) (S : rvS) (a0 : Nat) (r : Int32) (S' : rvS) (h : cX13_debt_21 n S a0 = some (r, S')) : rv_Ev mX13_debt 2 21 [(0, .ref a0)] [] S (some (.int r)) S' := by
  unfold cX13_debt_21 at h
  refine re_aloadn (pc := 21) 0 (by decide +kernel : decode cX13_debt 21 = .ok (.aload_n 0, 1)) rfl ?_
  obtain ⟨u1_, g2_, h⟩ := rv_b_e h
  obtain ⟨x4_, S5_, g6_, h⟩ := rv_bp_e h
  have m3_ := metX13_refuse n S a0 _ _ g6_
  have z7_ : rv_same S S5_ := m3_.sh rfl
  refine re_cV (pc := 22) [] m3_ (rv_okl.k z7_) (rv_up.sh z7_) (by decide) (rv_ck_e g2_) ⟨by decide, rfl⟩ (Nat.le_of_ble_eq_true rfl) lVX13_268 rfl (by decide +kernel : decode cX13_debt 22 = .ok (.invokevirtual 268, 3)) ?_
  cases h
  exact re_iret (fun ty hty => by cases hty; rfl) (by decide +kernel : decode cX13_debt 25 = .ok (.ireturn, 1))
noncomputable def fnX13_debt (n : Nat) (S : rvS) (a0 : Nat) (x1 : Int32) (x2 : Int32) : Option (Int32 × rvS) :=
  (rv_ck S 11 a0).bind fun u1_ =>
  (fnX13_lay n S a0).bind fun S4_ =>
  (rv_ck S4_ 11 a0).bind fun u7_ =>
  (fnX13_isDebt n S4_ a0 x1).bind fun x10_ =>
  if x10_ = 0 then (
    cX13_debt_21 n S4_ a0)
  else (
    (fnX13_isIn n S4_ x2 (0 : Int32) (3 : Int32)).bind fun x14_ =>
    if x14_ = 0 then (
      cX13_debt_21 n S4_ a0)
    else (
      (rv_pI S4_ 11 a0 0 (0 : Int32)).bind fun S17_ =>
      (rv_ck S17_ 11 a0).bind fun u19_ =>
      (fnX13_ofDebt n S17_ a0 x1 x2).bind fun x22_ =>
      some (x22_, S17_)))
set_option maxRecDepth 20000 in
set_option maxHeartbeats 4000000 in
theorem eX13_debt_in (n : Nat) (S : rvS) (a0 : Nat) (x1 : Int32) (x2 : Int32) (r : Int32) (S' : rvS) (h : fnX13_debt n S a0 x1 x2 = some (r, S')) : rv_Ev mX13_debt 2 0 [(0, .ref a0), (1, .int x1), (2, .int x2)] [] S (some (.int r)) S' := by
  unfold fnX13_debt at h
  refine re_aloadn (pc := 0) 0 (by decide +kernel : decode cX13_debt 0 = .ok (.aload_n 0, 1)) rfl ?_
  obtain ⟨u1_, g2_, h⟩ := rv_b_e h
  obtain ⟨S4_, g5_, h⟩ := rv_b_e h
  have m3_ := metX13_lay n S a0 _ g5_
  have z6_ : rv_same S S4_ := m3_.sh rfl
  refine re_cV (pc := 1) [] m3_ (rv_okl.k z6_) (rv_up.sh z6_) (by decide) (rv_ck_e g2_) ⟨by decide, rfl⟩ (Nat.le_of_ble_eq_true rfl) lVX13_187 rfl (by decide +kernel : decode cX13_debt 1 = .ok (.invokevirtual 187, 3)) ?_
  refine re_aloadn (pc := 4) 0 (by decide +kernel : decode cX13_debt 4 = .ok (.aload_n 0, 1)) rfl ?_
  refine re_iloadn (pc := 5) 1 (by decide +kernel : decode cX13_debt 5 = .ok (.iload_n 1, 1)) rfl ?_
  obtain ⟨u7_, g8_, h⟩ := rv_b_e h
  obtain ⟨x10_, g11_, h⟩ := rv_b_e h
  have m9_ := metX13_isDebt n S4_ a0 x1 _ g11_
  refine re_cV (pc := 6) [.int x1] m9_ (rv_okl.k ⟨rfl, rfl⟩) (rv_up.rf _ _) (by decide) (rv_ck_e g8_) ⟨by decide, rfl⟩ (Nat.le_of_ble_eq_true rfl) lVX13_396 rfl (by decide +kernel : decode cX13_debt 6 = .ok (.invokevirtual 396, 3)) ?_
  rcases rv_if_e h with ⟨g12_, h⟩ | ⟨g12_, h⟩
  · refine re_if_eq_t (pc := 9) 21 (by decide +kernel : decode cX13_debt 9 = .ok (.ifCond .eq 12, 3)) (by decide) g12_ ?_
    refine re_sub [0] (lv1 := [(0, .ref a0)]) rfl ?_
    exact eX13_debt_21 n S4_ a0 _ _ h
  · refine re_if_eq_f (pc := 9) 21 (by decide +kernel : decode cX13_debt 9 = .ok (.ifCond .eq 12, 3)) (by decide) g12_ ?_
    refine re_iloadn (pc := 12) 2 (by decide +kernel : decode cX13_debt 12 = .ok (.iload_n 2, 1)) rfl ?_
    refine re_iconst (pc := 13) (0 : Int32) (by decide +kernel : decode cX13_debt 13 = .ok (.iconst 0, 1)) (by decide) ?_
    refine re_iconst (pc := 14) (3 : Int32) (by decide +kernel : decode cX13_debt 14 = .ok (.iconst 3, 1)) (by decide) ?_
    obtain ⟨x14_, g15_, h⟩ := rv_b_e h
    have m13_ := metX13_isIn n S4_ x2 (0 : Int32) (3 : Int32) _ g15_
    refine re_cS (pc := 15) [.int x2, .int (0 : Int32), .int (3 : Int32)] m13_ (rv_okl.k ⟨rfl, rfl⟩) (rv_up.rf _ _) (by decide) (Nat.le_of_ble_eq_true rfl) lSX13_170 rfl (by decide +kernel : decode cX13_debt 15 = .ok (.invokestatic 170, 3)) ?_
    rcases rv_if_e h with ⟨g16_, h⟩ | ⟨g16_, h⟩
    · refine re_if_ne_f (pc := 18) 26 (by decide +kernel : decode cX13_debt 18 = .ok (.ifCond .ne 8, 3)) (by decide) g16_ ?_
      refine re_sub [0] (lv1 := [(0, .ref a0)]) rfl ?_
      exact eX13_debt_21 n S4_ a0 _ _ h
    · refine re_if_ne_t (pc := 18) 26 (by decide +kernel : decode cX13_debt 18 = .ok (.ifCond .ne 8, 3)) (by decide) g16_ ?_
      refine re_aloadn (pc := 26) 0 (by decide +kernel : decode cX13_debt 26 = .ok (.aload_n 0, 1)) rfl ?_
      refine re_iconst (pc := 27) (0 : Int32) (by decide +kernel : decode cX13_debt 27 = .ok (.iconst 0, 1)) (by decide) ?_
      obtain ⟨S17_, g18_, h⟩ := rv_b_e h
      refine re_pI (pc := 28) g18_ lfX13_99 rfl rfl rfl rfl (by decide +kernel : decode cX13_debt 28 = .ok (.putfield 99, 3)) ?_
      refine re_aloadn (pc := 31) 0 (by decide +kernel : decode cX13_debt 31 = .ok (.aload_n 0, 1)) rfl ?_
      refine re_iloadn (pc := 32) 1 (by decide +kernel : decode cX13_debt 32 = .ok (.iload_n 1, 1)) rfl ?_
      refine re_iloadn (pc := 33) 2 (by decide +kernel : decode cX13_debt 33 = .ok (.iload_n 2, 1)) rfl ?_
      obtain ⟨u19_, g20_, h⟩ := rv_b_e h
      obtain ⟨x22_, g23_, h⟩ := rv_b_e h
      have m21_ := metX13_ofDebt n S17_ a0 x1 x2 _ g23_
      refine re_cV (pc := 34) [.int x1, .int x2] m21_ (rv_okl.k ⟨rfl, rfl⟩) (rv_up.rf _ _) (by decide) (rv_ck_e g20_) ⟨by decide, rfl⟩ (Nat.le_of_ble_eq_true rfl) lVX13_399 rfl (by decide +kernel : decode cX13_debt 34 = .ok (.invokevirtual 399, 3)) ?_
      cases h
      exact re_iret (fun ty hty => by cases hty; rfl) (by decide +kernel : decode cX13_debt 37 = .ok (.ireturn, 1))
theorem metX13_debt (n : Nat) (S : rvS) (a0 : Nat) (x1 : Int32) (x2 : Int32) (r : Int32) (S' : rvS) (h : fnX13_debt n S a0 x1 x2 = some (r, S')) : rv_Met yX13_debt mX13_debt 2 [.ref a0, .int x1, .int x2] S (some (.int r)) S' := rv_Met.of ⟨by decide +kernel, rfl, (fun z => by first | rfl | cases z), rfl⟩ (Nat.le_of_ble_eq_true rfl) rfl (eX13_debt_in n S a0 x1 x2 r S' h)
noncomputable def fnX13_clearNow (n : Nat) (S : rvS) (a0 : Nat) (x1 : Int32) : Option (Int32 × rvS) :=
  (rv_ck S 11 a0).bind fun u1_ =>
  (fnX13_ofDebt n S a0 x1 (0 : Int32)).bind fun x4_ =>
  (rv_ck S 11 a0).bind fun u6_ =>
  (fnX13_ofDebt n S a0 x1 (1 : Int32)).bind fun x9_ =>
  (rv_ck S 11 a0).bind fun u11_ =>
  (fnX13_ofDebt n S a0 x1 (2 : Int32)).bind fun x14_ =>
  (rv_ck S 11 a0).bind fun u16_ =>
  rv_bp (fnX13_exactOf n S a0 x4_ x9_ x14_) fun x19_ S20_ =>
  if 0 ≤ x19_ then (
    (rv_ck S20_ 11 a0).bind fun u24_ =>
    (fnX13_ofDebt n S20_ a0 x1 (1 : Int32)).bind fun x27_ =>
    (rv_ck S20_ 11 a0).bind fun u29_ =>
    (fnX13_giveAll n S20_ a0 x27_).bind fun S32_ =>
    (rv_gR S32_ 11 a0 14).bind fun a35_ =>
    (rv_uI S32_ a35_ (((372 : Int32) + ((4 : Int32) * x1)) + (3 : Int32)) (1 : Int32)).bind fun S37_ =>
    some (x19_, S37_))
  else (
    some ((-1 : Int32), S20_))
set_option maxRecDepth 20000 in
set_option maxHeartbeats 4000000 in
theorem eX13_clearNow_in (n : Nat) (S : rvS) (a0 : Nat) (x1 : Int32) (r : Int32) (S' : rvS) (h : fnX13_clearNow n S a0 x1 = some (r, S')) : rv_Ev mX13_clearNow 6 0 [(0, .ref a0), (1, .int x1)] [] S (some (.int r)) S' := by
  unfold fnX13_clearNow at h
  refine re_aloadn (pc := 0) 0 (by decide +kernel : decode cX13_clearNow 0 = .ok (.aload_n 0, 1)) rfl ?_
  refine re_aloadn (pc := 1) 0 (by decide +kernel : decode cX13_clearNow 1 = .ok (.aload_n 0, 1)) rfl ?_
  refine re_iloadn (pc := 2) 1 (by decide +kernel : decode cX13_clearNow 2 = .ok (.iload_n 1, 1)) rfl ?_
  refine re_iconst (pc := 3) (0 : Int32) (by decide +kernel : decode cX13_clearNow 3 = .ok (.iconst 0, 1)) (by decide) ?_
  obtain ⟨u1_, g2_, h⟩ := rv_b_e h
  obtain ⟨x4_, g5_, h⟩ := rv_b_e h
  have m3_ := metX13_ofDebt n S a0 x1 (0 : Int32) _ g5_
  refine re_cV (pc := 4) [.int x1, .int (0 : Int32)] m3_ (rv_okl.k ⟨rfl, rfl⟩) (rv_up.rf _ _) (by decide) (rv_ck_e g2_) ⟨by decide, rfl⟩ (Nat.le_of_ble_eq_true rfl) lVX13_399 rfl (by decide +kernel : decode cX13_clearNow 4 = .ok (.invokevirtual 399, 3)) ?_
  refine re_aloadn (pc := 7) 0 (by decide +kernel : decode cX13_clearNow 7 = .ok (.aload_n 0, 1)) rfl ?_
  refine re_iloadn (pc := 8) 1 (by decide +kernel : decode cX13_clearNow 8 = .ok (.iload_n 1, 1)) rfl ?_
  refine re_iconst (pc := 9) (1 : Int32) (by decide +kernel : decode cX13_clearNow 9 = .ok (.iconst 1, 1)) (by decide) ?_
  obtain ⟨u6_, g7_, h⟩ := rv_b_e h
  obtain ⟨x9_, g10_, h⟩ := rv_b_e h
  have m8_ := metX13_ofDebt n S a0 x1 (1 : Int32) _ g10_
  refine re_cV (pc := 10) [.int x1, .int (1 : Int32)] m8_ (rv_okl.k ⟨rfl, rfl⟩) (rv_up.rf _ _) (by decide) (rv_ck_e g7_) ⟨by decide, rfl⟩ (Nat.le_of_ble_eq_true rfl) lVX13_399 rfl (by decide +kernel : decode cX13_clearNow 10 = .ok (.invokevirtual 399, 3)) ?_
  refine re_aloadn (pc := 13) 0 (by decide +kernel : decode cX13_clearNow 13 = .ok (.aload_n 0, 1)) rfl ?_
  refine re_iloadn (pc := 14) 1 (by decide +kernel : decode cX13_clearNow 14 = .ok (.iload_n 1, 1)) rfl ?_
  refine re_iconst (pc := 15) (2 : Int32) (by decide +kernel : decode cX13_clearNow 15 = .ok (.iconst 2, 1)) (by decide) ?_
  obtain ⟨u11_, g12_, h⟩ := rv_b_e h
  obtain ⟨x14_, g15_, h⟩ := rv_b_e h
  have m13_ := metX13_ofDebt n S a0 x1 (2 : Int32) _ g15_
  refine re_cV (pc := 16) [.int x1, .int (2 : Int32)] m13_ (rv_okl.k ⟨rfl, rfl⟩) (rv_up.rf _ _) (by decide) (rv_ck_e g12_) ⟨by decide, rfl⟩ (Nat.le_of_ble_eq_true rfl) lVX13_399 rfl (by decide +kernel : decode cX13_clearNow 16 = .ok (.invokevirtual 399, 3)) ?_
  obtain ⟨u16_, g17_, h⟩ := rv_b_e h
  obtain ⟨x19_, S20_, g21_, h⟩ := rv_bp_e h
  have m18_ := metX13_exactOf n S a0 x4_ x9_ x14_ _ _ g21_
  have z22_ : rv_same S S20_ := m18_.sh rfl
  refine re_cV (pc := 19) [.int x4_, .int x9_, .int x14_] m18_ (rv_okl.k z22_) (rv_up.sh z22_) (by decide) (rv_ck_e g17_) ⟨by decide, rfl⟩ (Nat.le_of_ble_eq_true rfl) lVX13_319 rfl (by decide +kernel : decode cX13_clearNow 19 = .ok (.invokevirtual 319, 3)) ?_
  refine re_istoren (pc := 22) (lv1 := [(2, .int x19_), (0, .ref a0), (1, .int x1)]) (by decide +kernel : decode cX13_clearNow 22 = .ok (.istore_n 2, 1)) rfl (by decide) rfl ?_
  refine re_iloadn (pc := 23) 0 (by decide +kernel : decode cX13_clearNow 23 = .ok (.iload_n 2, 1)) rfl ?_
  rcases rv_if_e h with ⟨g23_, h⟩ | ⟨g23_, h⟩
  · refine re_if_ge_t (pc := 24) 29 (by decide +kernel : decode cX13_clearNow 24 = .ok (.ifCond .ge 5, 3)) (by decide) g23_ ?_
    refine re_aloadn (pc := 29) 1 (by decide +kernel : decode cX13_clearNow 29 = .ok (.aload_n 0, 1)) rfl ?_
    refine re_aloadn (pc := 30) 1 (by decide +kernel : decode cX13_clearNow 30 = .ok (.aload_n 0, 1)) rfl ?_
    refine re_iloadn (pc := 31) 2 (by decide +kernel : decode cX13_clearNow 31 = .ok (.iload_n 1, 1)) rfl ?_
    refine re_iconst (pc := 32) (1 : Int32) (by decide +kernel : decode cX13_clearNow 32 = .ok (.iconst 1, 1)) (by decide) ?_
    obtain ⟨u24_, g25_, h⟩ := rv_b_e h
    obtain ⟨x27_, g28_, h⟩ := rv_b_e h
    have m26_ := metX13_ofDebt n S20_ a0 x1 (1 : Int32) _ g28_
    refine re_cV (pc := 33) [.int x1, .int (1 : Int32)] m26_ (rv_okl.k ⟨rfl, rfl⟩) (rv_up.rf _ _) (by decide) (rv_ck_e g25_) ⟨by decide, rfl⟩ (Nat.le_of_ble_eq_true rfl) lVX13_399 rfl (by decide +kernel : decode cX13_clearNow 33 = .ok (.invokevirtual 399, 3)) ?_
    obtain ⟨u29_, g30_, h⟩ := rv_b_e h
    obtain ⟨S32_, g33_, h⟩ := rv_b_e h
    have m31_ := metX13_giveAll n S20_ a0 x27_ _ g33_
    have z34_ : rv_same S20_ S32_ := m31_.sh rfl
    refine re_cV (pc := 36) [.int x27_] m31_ (rv_okl.k z34_) (rv_up.sh z34_) (by decide) (rv_ck_e g30_) ⟨by decide, rfl⟩ (Nat.le_of_ble_eq_true rfl) lVX13_329 rfl (by decide +kernel : decode cX13_clearNow 36 = .ok (.invokevirtual 329, 3)) ?_
    refine re_aloadn (pc := 39) 1 (by decide +kernel : decode cX13_clearNow 39 = .ok (.aload_n 0, 1)) rfl ?_
    obtain ⟨a35_, g36_, h⟩ := rv_b_e h
    refine re_gR (pc := 40) g36_ lfX13_13 rfl (by decide +kernel : decode cX13_clearNow 40 = .ok (.getfield 13, 3)) ?_
    refine re_sipush (pc := 43) (372 : Int32) (by decide +kernel : decode cX13_clearNow 43 = .ok (.sipush 372, 3)) (by decide) ?_
    refine re_iconst (pc := 46) (4 : Int32) (by decide +kernel : decode cX13_clearNow 46 = .ok (.iconst 4, 1)) (by decide) ?_
    refine re_iloadn (pc := 47) 2 (by decide +kernel : decode cX13_clearNow 47 = .ok (.iload_n 1, 1)) rfl ?_
    refine re_imul (pc := 48) (by decide +kernel : decode cX13_clearNow 48 = .ok (.imul, 1)) ?_
    refine re_iadd (pc := 49) (by decide +kernel : decode cX13_clearNow 49 = .ok (.iadd, 1)) ?_
    refine re_iconst (pc := 50) (3 : Int32) (by decide +kernel : decode cX13_clearNow 50 = .ok (.iconst 3, 1)) (by decide) ?_
    refine re_iadd (pc := 51) (by decide +kernel : decode cX13_clearNow 51 = .ok (.iadd, 1)) ?_
    refine re_iconst (pc := 52) (1 : Int32) (by decide +kernel : decode cX13_clearNow 52 = .ok (.iconst 1, 1)) (by decide) ?_
    obtain ⟨S37_, g38_, h⟩ := rv_b_e h
    refine re_uI (pc := 53) g38_ (by decide +kernel : decode cX13_clearNow 53 = .ok (.iastore, 1)) ?_
    refine re_iloadn (pc := 54) 0 (by decide +kernel : decode cX13_clearNow 54 = .ok (.iload_n 2, 1)) rfl ?_
    cases h
    exact re_iret (fun ty hty => by cases hty; rfl) (by decide +kernel : decode cX13_clearNow 55 = .ok (.ireturn, 1))
  · refine re_if_ge_f (pc := 24) 29 (by decide +kernel : decode cX13_clearNow 24 = .ok (.ifCond .ge 5, 3)) (by decide) g23_ ?_
    refine re_iconst (pc := 27) (-1 : Int32) (by decide +kernel : decode cX13_clearNow 27 = .ok (.iconst (-1), 1)) (by decide) ?_
    cases h
    exact re_iret (fun ty hty => by cases hty; rfl) (by decide +kernel : decode cX13_clearNow 28 = .ok (.ireturn, 1))
theorem metX13_clearNow (n : Nat) (S : rvS) (a0 : Nat) (x1 : Int32) (r : Int32) (S' : rvS) (h : fnX13_clearNow n S a0 x1 = some (r, S')) : rv_Met yX13_clearNow mX13_clearNow 6 [.ref a0, .int x1] S (some (.int r)) S' := rv_Met.of ⟨by decide +kernel, rfl, (fun z => by first | rfl | cases z), rfl⟩ (Nat.le_of_ble_eq_true rfl) rfl (eX13_clearNow_in n S a0 x1 r S' h)
noncomputable def fnX13_clear (n : Nat) (S : rvS) (a0 : Nat) (x1 : Int32) : Option (Int32 × rvS) :=
  (rv_pI S 11 a0 0 (0 : Int32)).bind fun S1_ =>
  (rv_ck S1_ 11 a0).bind fun u3_ =>
  (fnX13_lay n S1_ a0).bind fun S6_ =>
  (rv_ck S6_ 11 a0).bind fun u9_ =>
  (fnX13_isDebt n S6_ a0 x1).bind fun x12_ =>
  if x12_ = 0 then (
    some ((-2 : Int32), S6_))
  else (
    (rv_ck S6_ 11 a0).bind fun u15_ =>
    (fnX13_ofDebt n S6_ a0 x1 (3 : Int32)).bind fun x18_ =>
    if x18_ = 0 then (
      (rv_ck S6_ 11 a0).bind fun u21_ =>
      rv_bp (fnX13_clearNow n S6_ a0 x1) fun x24_ S25_ =>
      some (x24_, S25_))
    else (
      some ((-2 : Int32), S6_)))
set_option maxRecDepth 20000 in
set_option maxHeartbeats 4000000 in
theorem eX13_clear_in (n : Nat) (S : rvS) (a0 : Nat) (x1 : Int32) (r : Int32) (S' : rvS) (h : fnX13_clear n S a0 x1 = some (r, S')) : rv_Ev mX13_clear 7 0 [(0, .ref a0), (1, .int x1)] [] S (some (.int r)) S' := by
  unfold fnX13_clear at h
  refine re_aloadn (pc := 0) 0 (by decide +kernel : decode cX13_clear 0 = .ok (.aload_n 0, 1)) rfl ?_
  refine re_iconst (pc := 1) (0 : Int32) (by decide +kernel : decode cX13_clear 1 = .ok (.iconst 0, 1)) (by decide) ?_
  obtain ⟨S1_, g2_, h⟩ := rv_b_e h
  refine re_pI (pc := 2) g2_ lfX13_99 rfl rfl rfl rfl (by decide +kernel : decode cX13_clear 2 = .ok (.putfield 99, 3)) ?_
  refine re_aloadn (pc := 5) 0 (by decide +kernel : decode cX13_clear 5 = .ok (.aload_n 0, 1)) rfl ?_
  obtain ⟨u3_, g4_, h⟩ := rv_b_e h
  obtain ⟨S6_, g7_, h⟩ := rv_b_e h
  have m5_ := metX13_lay n S1_ a0 _ g7_
  have z8_ : rv_same S1_ S6_ := m5_.sh rfl
  refine re_cV (pc := 6) [] m5_ (rv_okl.k z8_) (rv_up.sh z8_) (by decide) (rv_ck_e g4_) ⟨by decide, rfl⟩ (Nat.le_of_ble_eq_true rfl) lVX13_187 rfl (by decide +kernel : decode cX13_clear 6 = .ok (.invokevirtual 187, 3)) ?_
  refine re_aloadn (pc := 9) 0 (by decide +kernel : decode cX13_clear 9 = .ok (.aload_n 0, 1)) rfl ?_
  refine re_iloadn (pc := 10) 1 (by decide +kernel : decode cX13_clear 10 = .ok (.iload_n 1, 1)) rfl ?_
  obtain ⟨u9_, g10_, h⟩ := rv_b_e h
  obtain ⟨x12_, g13_, h⟩ := rv_b_e h
  have m11_ := metX13_isDebt n S6_ a0 x1 _ g13_
  refine re_cV (pc := 11) [.int x1] m11_ (rv_okl.k ⟨rfl, rfl⟩) (rv_up.rf _ _) (by decide) (rv_ck_e g10_) ⟨by decide, rfl⟩ (Nat.le_of_ble_eq_true rfl) lVX13_396 rfl (by decide +kernel : decode cX13_clear 11 = .ok (.invokevirtual 396, 3)) ?_
  rcases rv_if_e h with ⟨g14_, h⟩ | ⟨g14_, h⟩
  · refine re_if_eq_t (pc := 14) 34 (by decide +kernel : decode cX13_clear 14 = .ok (.ifCond .eq 20, 3)) (by decide) g14_ ?_
    refine re_bipush (pc := 34) (-2 : Int32) (by decide +kernel : decode cX13_clear 34 = .ok (.bipush (-2), 2)) (by decide) ?_
    cases h
    exact re_iret (fun ty hty => by cases hty; rfl) (by decide +kernel : decode cX13_clear 36 = .ok (.ireturn, 1))
  · refine re_if_eq_f (pc := 14) 34 (by decide +kernel : decode cX13_clear 14 = .ok (.ifCond .eq 20, 3)) (by decide) g14_ ?_
    refine re_aloadn (pc := 17) 0 (by decide +kernel : decode cX13_clear 17 = .ok (.aload_n 0, 1)) rfl ?_
    refine re_iloadn (pc := 18) 1 (by decide +kernel : decode cX13_clear 18 = .ok (.iload_n 1, 1)) rfl ?_
    refine re_iconst (pc := 19) (3 : Int32) (by decide +kernel : decode cX13_clear 19 = .ok (.iconst 3, 1)) (by decide) ?_
    obtain ⟨u15_, g16_, h⟩ := rv_b_e h
    obtain ⟨x18_, g19_, h⟩ := rv_b_e h
    have m17_ := metX13_ofDebt n S6_ a0 x1 (3 : Int32) _ g19_
    refine re_cV (pc := 20) [.int x1, .int (3 : Int32)] m17_ (rv_okl.k ⟨rfl, rfl⟩) (rv_up.rf _ _) (by decide) (rv_ck_e g16_) ⟨by decide, rfl⟩ (Nat.le_of_ble_eq_true rfl) lVX13_399 rfl (by decide +kernel : decode cX13_clear 20 = .ok (.invokevirtual 399, 3)) ?_
    rcases rv_if_e h with ⟨g20_, h⟩ | ⟨g20_, h⟩
    · refine re_if_ne_f (pc := 23) 34 (by decide +kernel : decode cX13_clear 23 = .ok (.ifCond .ne 11, 3)) (by decide) g20_ ?_
      refine re_aloadn (pc := 26) 0 (by decide +kernel : decode cX13_clear 26 = .ok (.aload_n 0, 1)) rfl ?_
      refine re_iloadn (pc := 27) 1 (by decide +kernel : decode cX13_clear 27 = .ok (.iload_n 1, 1)) rfl ?_
      obtain ⟨u21_, g22_, h⟩ := rv_b_e h
      obtain ⟨x24_, S25_, g26_, h⟩ := rv_bp_e h
      have m23_ := metX13_clearNow n S6_ a0 x1 _ _ g26_
      have z27_ : rv_same S6_ S25_ := m23_.sh rfl
      refine re_cV (pc := 28) [.int x1] m23_ (rv_okl.k z27_) (rv_up.sh z27_) (by decide) (rv_ck_e g22_) ⟨by decide, rfl⟩ (Nat.le_of_ble_eq_true rfl) lVX13_402 rfl (by decide +kernel : decode cX13_clear 28 = .ok (.invokevirtual 402, 3)) ?_
      refine re_goto (pc := 31) 36 (by decide +kernel : decode cX13_clear 31 = .ok (.goto 5, 3)) (by decide) ?_
      cases h
      exact re_iret (fun ty hty => by cases hty; rfl) (by decide +kernel : decode cX13_clear 36 = .ok (.ireturn, 1))
    · refine re_if_ne_t (pc := 23) 34 (by decide +kernel : decode cX13_clear 23 = .ok (.ifCond .ne 11, 3)) (by decide) g20_ ?_
      refine re_bipush (pc := 34) (-2 : Int32) (by decide +kernel : decode cX13_clear 34 = .ok (.bipush (-2), 2)) (by decide) ?_
      cases h
      exact re_iret (fun ty hty => by cases hty; rfl) (by decide +kernel : decode cX13_clear 36 = .ok (.ireturn, 1))
theorem metX13_clear (n : Nat) (S : rvS) (a0 : Nat) (x1 : Int32) (r : Int32) (S' : rvS) (h : fnX13_clear n S a0 x1 = some (r, S')) : rv_Met yX13_clear mX13_clear 7 [.ref a0, .int x1] S (some (.int r)) S' := rv_Met.of ⟨by decide +kernel, rfl, (fun z => by first | rfl | cases z), rfl⟩ (Nat.le_of_ble_eq_true rfl) rfl (eX13_clear_in n S a0 x1 r S' h)
noncomputable def cX13_layAside_2 (n : Nat) : Nat → rvS → Nat → Int32 → Option rvS
  | 0, _, _, _ => none
  | k + 1, S, a0, x1 =>
    if (420 : Int32) ≤ x1 then (
      some S)
    else (
      (rv_gR S 11 a0 17).bind fun a2_ =>
      (rv_gR S 11 a0 14).bind fun a4_ =>
      (rv_aI S 0 a4_ x1).bind fun x6_ =>
      (rv_uI S a2_ x1 x6_).bind fun S8_ =>
      rv_lt (x1 + (1)) fun x10_ =>
      cX13_layAside_2 n k S8_ a0 x10_)
set_option maxRecDepth 20000 in
set_option maxHeartbeats 4000000 in
theorem eX13_layAside_2 (n : Nat) : ∀ (k : Nat) (S : rvS) (a0 : Nat) (x1 : Int32) (S' : rvS), cX13_layAside_2 n k S a0 x1 = some S' → rv_Ev mX13_layAside 0 2 [(0, .ref a0), (1, .int x1)] [] S none S' := by
  intro k
  induction k with
  | zero => intro S a0 x1 S' h; exact absurd h (by simp [cX13_layAside_2])
  | succ k ih =>
    intro S a0 x1 S' h
    unfold cX13_layAside_2 at h
    refine re_iloadn (pc := 2) 1 (by decide +kernel : decode cX13_layAside 2 = .ok (.iload_n 1, 1)) rfl ?_
    refine re_sipush (pc := 3) (420 : Int32) (by decide +kernel : decode cX13_layAside 3 = .ok (.sipush 420, 3)) (by decide) ?_
    rcases rv_if_e h with ⟨g1_, h⟩ | ⟨g1_, h⟩
    · refine re_icmp_ge_t (pc := 6) 27 (by decide +kernel : decode cX13_layAside 6 = .ok (.if_icmp .ge 21, 3)) (by decide) g1_ ?_
      cases h
      exact re_vret (by decide +kernel : decode cX13_layAside 27 = .ok (.return_, 1))
    · refine re_icmp_ge_f (pc := 6) 27 (by decide +kernel : decode cX13_layAside 6 = .ok (.if_icmp .ge 21, 3)) (by decide) g1_ ?_
      refine re_aloadn (pc := 9) 0 (by decide +kernel : decode cX13_layAside 9 = .ok (.aload_n 0, 1)) rfl ?_
      obtain ⟨a2_, g3_, h⟩ := rv_b_e h
      refine re_gR (pc := 10) g3_ lfX13_22 rfl (by decide +kernel : decode cX13_layAside 10 = .ok (.getfield 22, 3)) ?_
      refine re_iloadn (pc := 13) 1 (by decide +kernel : decode cX13_layAside 13 = .ok (.iload_n 1, 1)) rfl ?_
      refine re_aloadn (pc := 14) 0 (by decide +kernel : decode cX13_layAside 14 = .ok (.aload_n 0, 1)) rfl ?_
      obtain ⟨a4_, g5_, h⟩ := rv_b_e h
      refine re_gR (pc := 15) g5_ lfX13_13 rfl (by decide +kernel : decode cX13_layAside 15 = .ok (.getfield 13, 3)) ?_
      refine re_iloadn (pc := 18) 1 (by decide +kernel : decode cX13_layAside 18 = .ok (.iload_n 1, 1)) rfl ?_
      obtain ⟨x6_, g7_, h⟩ := rv_b_e h
      refine re_aI (pc := 19) g7_ (by decide +kernel : decode cX13_layAside 19 = .ok (.iaload, 1)) ?_
      obtain ⟨S8_, g9_, h⟩ := rv_b_e h
      refine re_uI (pc := 20) g9_ (by decide +kernel : decode cX13_layAside 20 = .ok (.iastore, 1)) ?_
      obtain ⟨x10_, g11_, h⟩ := rv_lt_e h
      refine re_iinc (pc := 21) 1 x10_ (lv1 := [(1, .int x10_), (0, .ref a0)]) (by decide +kernel : decode cX13_layAside 21 = .ok (.iinc 1 1, 3)) rfl g11_ (by decide) rfl ?_
      refine re_goto (pc := 24) 2 (by decide +kernel : decode cX13_layAside 24 = .ok (.goto (-22), 3)) (by decide) ?_
      refine re_sub [1, 0] (lv1 := [(0, .ref a0), (1, .int x10_)]) rfl ?_
      exact ih S8_ a0 x10_ _ h
noncomputable def fnX13_layAside (n : Nat) (S : rvS) (a0 : Nat) : Option rvS :=
  cX13_layAside_2 n n S a0 (0 : Int32)
set_option maxRecDepth 20000 in
set_option maxHeartbeats 4000000 in
theorem eX13_layAside_in (n : Nat) (S : rvS) (a0 : Nat) (S' : rvS) (h : fnX13_layAside n S a0 = some S') : rv_Ev mX13_layAside 0 0 [(0, .ref a0)] [] S none S' := by
  unfold fnX13_layAside at h
  refine re_iconst (pc := 0) (0 : Int32) (by decide +kernel : decode cX13_layAside 0 = .ok (.iconst 0, 1)) (by decide) ?_
  refine re_istoren (pc := 1) (lv1 := [(1, .int (0 : Int32)), (0, .ref a0)]) (by decide +kernel : decode cX13_layAside 1 = .ok (.istore_n 1, 1)) rfl (by decide) rfl ?_
  refine re_sub [1, 0] (lv1 := [(0, .ref a0), (1, .int (0 : Int32))]) rfl ?_
  exact eX13_layAside_2 n n S a0 (0 : Int32) _ h
theorem metX13_layAside (n : Nat) (S : rvS) (a0 : Nat) (S' : rvS) (h : fnX13_layAside n S a0 = some S') : rv_Met yX13_layAside mX13_layAside 0 [.ref a0] S none S' := rv_Met.of ⟨by decide +kernel, rfl, (fun z => by first | rfl | cases z), rfl⟩ (Nat.le_of_ble_eq_true rfl) rfl (eX13_layAside_in n S a0 S' h)
noncomputable def cX13_layBack_2 (n : Nat) : Nat → rvS → Nat → Int32 → Option rvS
  | 0, _, _, _ => none
  | k + 1, S, a0, x1 =>
    if (420 : Int32) ≤ x1 then (
      some S)
    else (
      (rv_gR S 11 a0 14).bind fun a2_ =>
      (rv_gR S 11 a0 17).bind fun a4_ =>
      (rv_aI S 0 a4_ x1).bind fun x6_ =>
      (rv_uI S a2_ x1 x6_).bind fun S8_ =>
      rv_lt (x1 + (1)) fun x10_ =>
      cX13_layBack_2 n k S8_ a0 x10_)
set_option maxRecDepth 20000 in
set_option maxHeartbeats 4000000 in
theorem eX13_layBack_2 (n : Nat) : ∀ (k : Nat) (S : rvS) (a0 : Nat) (x1 : Int32) (S' : rvS), cX13_layBack_2 n k S a0 x1 = some S' → rv_Ev mX13_layBack 0 2 [(0, .ref a0), (1, .int x1)] [] S none S' := by
  intro k
  induction k with
  | zero => intro S a0 x1 S' h; exact absurd h (by simp [cX13_layBack_2])
  | succ k ih =>
    intro S a0 x1 S' h
    unfold cX13_layBack_2 at h
    refine re_iloadn (pc := 2) 1 (by decide +kernel : decode cX13_layBack 2 = .ok (.iload_n 1, 1)) rfl ?_
    refine re_sipush (pc := 3) (420 : Int32) (by decide +kernel : decode cX13_layBack 3 = .ok (.sipush 420, 3)) (by decide) ?_
    rcases rv_if_e h with ⟨g1_, h⟩ | ⟨g1_, h⟩
    · refine re_icmp_ge_t (pc := 6) 27 (by decide +kernel : decode cX13_layBack 6 = .ok (.if_icmp .ge 21, 3)) (by decide) g1_ ?_
      cases h
      exact re_vret (by decide +kernel : decode cX13_layBack 27 = .ok (.return_, 1))
    · refine re_icmp_ge_f (pc := 6) 27 (by decide +kernel : decode cX13_layBack 6 = .ok (.if_icmp .ge 21, 3)) (by decide) g1_ ?_
      refine re_aloadn (pc := 9) 0 (by decide +kernel : decode cX13_layBack 9 = .ok (.aload_n 0, 1)) rfl ?_
      obtain ⟨a2_, g3_, h⟩ := rv_b_e h
      refine re_gR (pc := 10) g3_ lfX13_13 rfl (by decide +kernel : decode cX13_layBack 10 = .ok (.getfield 13, 3)) ?_
      refine re_iloadn (pc := 13) 1 (by decide +kernel : decode cX13_layBack 13 = .ok (.iload_n 1, 1)) rfl ?_
      refine re_aloadn (pc := 14) 0 (by decide +kernel : decode cX13_layBack 14 = .ok (.aload_n 0, 1)) rfl ?_
      obtain ⟨a4_, g5_, h⟩ := rv_b_e h
      refine re_gR (pc := 15) g5_ lfX13_22 rfl (by decide +kernel : decode cX13_layBack 15 = .ok (.getfield 22, 3)) ?_
      refine re_iloadn (pc := 18) 1 (by decide +kernel : decode cX13_layBack 18 = .ok (.iload_n 1, 1)) rfl ?_
      obtain ⟨x6_, g7_, h⟩ := rv_b_e h
      refine re_aI (pc := 19) g7_ (by decide +kernel : decode cX13_layBack 19 = .ok (.iaload, 1)) ?_
      obtain ⟨S8_, g9_, h⟩ := rv_b_e h
      refine re_uI (pc := 20) g9_ (by decide +kernel : decode cX13_layBack 20 = .ok (.iastore, 1)) ?_
      obtain ⟨x10_, g11_, h⟩ := rv_lt_e h
      refine re_iinc (pc := 21) 1 x10_ (lv1 := [(1, .int x10_), (0, .ref a0)]) (by decide +kernel : decode cX13_layBack 21 = .ok (.iinc 1 1, 3)) rfl g11_ (by decide) rfl ?_
      refine re_goto (pc := 24) 2 (by decide +kernel : decode cX13_layBack 24 = .ok (.goto (-22), 3)) (by decide) ?_
      refine re_sub [1, 0] (lv1 := [(0, .ref a0), (1, .int x10_)]) rfl ?_
      exact ih S8_ a0 x10_ _ h
noncomputable def fnX13_layBack (n : Nat) (S : rvS) (a0 : Nat) : Option rvS :=
  cX13_layBack_2 n n S a0 (0 : Int32)
set_option maxRecDepth 20000 in
set_option maxHeartbeats 4000000 in
theorem eX13_layBack_in (n : Nat) (S : rvS) (a0 : Nat) (S' : rvS) (h : fnX13_layBack n S a0 = some S') : rv_Ev mX13_layBack 0 0 [(0, .ref a0)] [] S none S' := by
  unfold fnX13_layBack at h
  refine re_iconst (pc := 0) (0 : Int32) (by decide +kernel : decode cX13_layBack 0 = .ok (.iconst 0, 1)) (by decide) ?_
  refine re_istoren (pc := 1) (lv1 := [(1, .int (0 : Int32)), (0, .ref a0)]) (by decide +kernel : decode cX13_layBack 1 = .ok (.istore_n 1, 1)) rfl (by decide) rfl ?_
  refine re_sub [1, 0] (lv1 := [(0, .ref a0), (1, .int (0 : Int32))]) rfl ?_
  exact eX13_layBack_2 n n S a0 (0 : Int32) _ h
theorem metX13_layBack (n : Nat) (S : rvS) (a0 : Nat) (S' : rvS) (h : fnX13_layBack n S a0 = some S') : rv_Met yX13_layBack mX13_layBack 0 [.ref a0] S none S' := rv_Met.of ⟨by decide +kernel, rfl, (fun z => by first | rfl | cases z), rfl⟩ (Nat.le_of_ble_eq_true rfl) rfl (eX13_layBack_in n S a0 S' h)
noncomputable def cX13_tryOrders_10 (n : Nat) (G0 : rvS → Nat → Int32 → Int32 → Option rvS) : Nat → rvS → Nat → Int32 → Int32 → Int32 → Option rvS
  | 0, _, _, _, _, _ => none
  | k + 1, S, a0, x1, x2, x3 =>
    (rv_gI S 11 a0 41).bind fun x1_ =>
    if x1_ ≤ x3 then (
      some S)
    else (
      (fnX13_has n S x2 x3).bind fun x5_ =>
      if x5_ = 0 then (
        (rv_gR S 11 a0 39).bind fun a8_ =>
        (rv_gR S 11 a0 38).bind fun a10_ =>
        (rv_aI S 0 a10_ x3).bind fun x12_ =>
        (rv_uI S a8_ x1 x12_).bind fun S14_ =>
        (rv_ck S14_ 11 a0).bind fun u16_ =>
        (G0 S14_ a0 (x1 + (1 : Int32)) (x2 ||| ((1 : Int32) <<< (x3 &&& 31)))).bind fun S19_ =>
        rv_lt (x3 + (1)) fun x22_ =>
        cX13_tryOrders_10 n G0 k S19_ a0 x1 x2 x22_)
      else (
        rv_lt (x3 + (1)) fun x24_ =>
        cX13_tryOrders_10 n G0 k S a0 x1 x2 x24_))
set_option maxRecDepth 20000 in
set_option maxHeartbeats 4000000 in
theorem eX13_tryOrders_10 (n : Nat) (G0 : rvS → Nat → Int32 → Int32 → Option rvS) (d : Nat) (hG0 : ∀ (S : rvS) (z0 : Nat) (z1 : Int32) (z2 : Int32) (S' : rvS), G0 S z0 z1 z2 = some S' → rv_Met yX13_tryOrders mX13_tryOrders (7 + d) [.ref z0, .int z1, .int z2] S none S') : ∀ (k : Nat) (S : rvS) (a0 : Nat) (x1 : Int32) (x2 : Int32) (x3 : Int32) (S' : rvS), cX13_tryOrders_10 n G0 k S a0 x1 x2 x3 = some S' → rv_Ev mX13_tryOrders (7 + d + 1) 10 [(0, .ref a0), (1, .int x1), (2, .int x2), (3, .int x3)] [] S none S' := by
  intro k
  induction k with
  | zero => intro S a0 x1 x2 x3 S' h; exact absurd h (by simp [cX13_tryOrders_10])
  | succ k ih =>
    intro S a0 x1 x2 x3 S' h
    unfold cX13_tryOrders_10 at h
    refine re_iloadn (pc := 10) 3 (by decide +kernel : decode cX13_tryOrders 10 = .ok (.iload_n 3, 1)) rfl ?_
    refine re_aloadn (pc := 11) 0 (by decide +kernel : decode cX13_tryOrders 11 = .ok (.aload_n 0, 1)) rfl ?_
    obtain ⟨x1_, g2_, h⟩ := rv_b_e h
    refine re_gI (pc := 12) g2_ lfX13_405 rfl (by decide +kernel : decode cX13_tryOrders 12 = .ok (.getfield 405, 3)) ?_
    rcases rv_if_e h with ⟨g3_, h⟩ | ⟨g3_, h⟩
    · refine re_icmp_ge_t (pc := 15) 59 (by decide +kernel : decode cX13_tryOrders 15 = .ok (.if_icmp .ge 44, 3)) (by decide) g3_ ?_
      cases h
      exact re_vret (by decide +kernel : decode cX13_tryOrders 59 = .ok (.return_, 1))
    · refine re_icmp_ge_f (pc := 15) 59 (by decide +kernel : decode cX13_tryOrders 15 = .ok (.if_icmp .ge 44, 3)) (by decide) g3_ ?_
      refine re_iloadn (pc := 18) 2 (by decide +kernel : decode cX13_tryOrders 18 = .ok (.iload_n 2, 1)) rfl ?_
      refine re_iloadn (pc := 19) 3 (by decide +kernel : decode cX13_tryOrders 19 = .ok (.iload_n 3, 1)) rfl ?_
      obtain ⟨x5_, g6_, h⟩ := rv_b_e h
      have m4_ := metX13_has n S x2 x3 _ g6_
      refine re_cS (pc := 20) [.int x2, .int x3] m4_ (rv_okl.k ⟨rfl, rfl⟩) (rv_up.rf _ _) (by omega) (Nat.le_of_ble_eq_true rfl) lSX13_205 rfl (by decide +kernel : decode cX13_tryOrders 20 = .ok (.invokestatic 205, 3)) ?_
      rcases rv_if_e h with ⟨g7_, h⟩ | ⟨g7_, h⟩
      · refine re_if_eq_t (pc := 23) 29 (by decide +kernel : decode cX13_tryOrders 23 = .ok (.ifCond .eq 6, 3)) (by decide) g7_ ?_
        refine re_aloadn (pc := 29) 0 (by decide +kernel : decode cX13_tryOrders 29 = .ok (.aload_n 0, 1)) rfl ?_
        obtain ⟨a8_, g9_, h⟩ := rv_b_e h
        refine re_gR (pc := 30) g9_ lfX13_78 rfl (by decide +kernel : decode cX13_tryOrders 30 = .ok (.getfield 78, 3)) ?_
        refine re_iloadn (pc := 33) 1 (by decide +kernel : decode cX13_tryOrders 33 = .ok (.iload_n 1, 1)) rfl ?_
        refine re_aloadn (pc := 34) 0 (by decide +kernel : decode cX13_tryOrders 34 = .ok (.aload_n 0, 1)) rfl ?_
        obtain ⟨a10_, g11_, h⟩ := rv_b_e h
        refine re_gR (pc := 35) g11_ lfX13_75 rfl (by decide +kernel : decode cX13_tryOrders 35 = .ok (.getfield 75, 3)) ?_
        refine re_iloadn (pc := 38) 3 (by decide +kernel : decode cX13_tryOrders 38 = .ok (.iload_n 3, 1)) rfl ?_
        obtain ⟨x12_, g13_, h⟩ := rv_b_e h
        refine re_aI (pc := 39) g13_ (by decide +kernel : decode cX13_tryOrders 39 = .ok (.iaload, 1)) ?_
        obtain ⟨S14_, g15_, h⟩ := rv_b_e h
        refine re_uI (pc := 40) g15_ (by decide +kernel : decode cX13_tryOrders 40 = .ok (.iastore, 1)) ?_
        refine re_aloadn (pc := 41) 0 (by decide +kernel : decode cX13_tryOrders 41 = .ok (.aload_n 0, 1)) rfl ?_
        refine re_iloadn (pc := 42) 1 (by decide +kernel : decode cX13_tryOrders 42 = .ok (.iload_n 1, 1)) rfl ?_
        refine re_iconst (pc := 43) (1 : Int32) (by decide +kernel : decode cX13_tryOrders 43 = .ok (.iconst 1, 1)) (by decide) ?_
        refine re_iadd (pc := 44) (by decide +kernel : decode cX13_tryOrders 44 = .ok (.iadd, 1)) ?_
        refine re_iloadn (pc := 45) 2 (by decide +kernel : decode cX13_tryOrders 45 = .ok (.iload_n 2, 1)) rfl ?_
        refine re_iconst (pc := 46) (1 : Int32) (by decide +kernel : decode cX13_tryOrders 46 = .ok (.iconst 1, 1)) (by decide) ?_
        refine re_iloadn (pc := 47) 3 (by decide +kernel : decode cX13_tryOrders 47 = .ok (.iload_n 3, 1)) rfl ?_
        refine re_ishl (pc := 48) (by decide +kernel : decode cX13_tryOrders 48 = .ok (.ishl, 1)) ?_
        refine re_ior (pc := 49) (by decide +kernel : decode cX13_tryOrders 49 = .ok (.ior, 1)) ?_
        obtain ⟨u16_, g17_, h⟩ := rv_b_e h
        obtain ⟨S19_, g20_, h⟩ := rv_b_e h
        have m18_ := hG0 S14_ a0 (x1 + (1 : Int32)) (x2 ||| ((1 : Int32) <<< (x3 &&& 31))) _ g20_
        have z21_ : rv_same S14_ S19_ := m18_.sh rfl
        refine re_cV (pc := 50) [.int (x1 + (1 : Int32)), .int (x2 ||| ((1 : Int32) <<< (x3 &&& 31)))] m18_ (rv_okl.k z21_) (rv_up.sh z21_) (by omega) (rv_ck_e g17_) ⟨by decide, rfl⟩ (Nat.le_of_ble_eq_true rfl) lVX13_408 rfl (by decide +kernel : decode cX13_tryOrders 50 = .ok (.invokevirtual 408, 3)) ?_
        obtain ⟨x22_, g23_, h⟩ := rv_lt_e h
        refine re_iinc (pc := 53) 3 x22_ (lv1 := [(3, .int x22_), (0, .ref a0), (1, .int x1), (2, .int x2)]) (by decide +kernel : decode cX13_tryOrders 53 = .ok (.iinc 3 1, 3)) rfl g23_ (by decide) rfl ?_
        refine re_goto (pc := 56) 10 (by decide +kernel : decode cX13_tryOrders 56 = .ok (.goto (-46), 3)) (by decide) ?_
        refine re_sub [1, 2, 3, 0] (lv1 := [(0, .ref a0), (1, .int x1), (2, .int x2), (3, .int x22_)]) rfl ?_
        exact ih S19_ a0 x1 x2 x22_ _ h
      · refine re_if_eq_f (pc := 23) 29 (by decide +kernel : decode cX13_tryOrders 23 = .ok (.ifCond .eq 6, 3)) (by decide) g7_ ?_
        refine re_goto (pc := 26) 53 (by decide +kernel : decode cX13_tryOrders 26 = .ok (.goto 27, 3)) (by decide) ?_
        obtain ⟨x24_, g25_, h⟩ := rv_lt_e h
        refine re_iinc (pc := 53) 3 x24_ (lv1 := [(3, .int x24_), (0, .ref a0), (1, .int x1), (2, .int x2)]) (by decide +kernel : decode cX13_tryOrders 53 = .ok (.iinc 3 1, 3)) rfl g25_ (by decide) rfl ?_
        refine re_goto (pc := 56) 10 (by decide +kernel : decode cX13_tryOrders 56 = .ok (.goto (-46), 3)) (by decide) ?_
        refine re_sub [1, 2, 3, 0] (lv1 := [(0, .ref a0), (1, .int x1), (2, .int x2), (3, .int x24_)]) rfl ?_
        exact ih S a0 x1 x2 x24_ _ h
noncomputable def cX13_tryOrders_118 (n : Nat) (G0 : rvS → Nat → Int32 → Int32 → Option rvS) : Nat → rvS → Nat → Int32 → Option rvS
  | 0, _, _, _ => none
  | k + 1, S, a0, x4 =>
    (rv_gI S 11 a0 41).bind fun x1_ =>
    if x1_ ≤ x4 then (
      some S)
    else (
      (rv_gR S 11 a0 40).bind fun a4_ =>
      (rv_gR S 11 a0 39).bind fun a6_ =>
      (rv_aI S 0 a6_ x4).bind fun x8_ =>
      (rv_uI S a4_ x4 x8_).bind fun S10_ =>
      rv_lt (x4 + (1)) fun x12_ =>
      cX13_tryOrders_118 n G0 k S10_ a0 x12_)
set_option maxRecDepth 20000 in
set_option maxHeartbeats 4000000 in
theorem eX13_tryOrders_118 (n : Nat) (G0 : rvS → Nat → Int32 → Int32 → Option rvS) (d : Nat) (hG0 : ∀ (S : rvS) (z0 : Nat) (z1 : Int32) (z2 : Int32) (S' : rvS), G0 S z0 z1 z2 = some S' → rv_Met yX13_tryOrders mX13_tryOrders (7 + d) [.ref z0, .int z1, .int z2] S none S') : ∀ (k : Nat) (S : rvS) (a0 : Nat) (x4 : Int32) (S' : rvS), cX13_tryOrders_118 n G0 k S a0 x4 = some S' → rv_Ev mX13_tryOrders (7 + d + 1) 118 [(0, .ref a0), (4, .int x4)] [] S none S' := by
  intro k
  induction k with
  | zero => intro S a0 x4 S' h; exact absurd h (by simp [cX13_tryOrders_118])
  | succ k ih =>
    intro S a0 x4 S' h
    unfold cX13_tryOrders_118 at h
    refine re_iload (pc := 118) 1 (by decide +kernel : decode cX13_tryOrders 118 = .ok (.iload 4, 2)) rfl ?_
    refine re_aloadn (pc := 120) 0 (by decide +kernel : decode cX13_tryOrders 120 = .ok (.aload_n 0, 1)) rfl ?_
    obtain ⟨x1_, g2_, h⟩ := rv_b_e h
    refine re_gI (pc := 121) g2_ lfX13_405 rfl (by decide +kernel : decode cX13_tryOrders 121 = .ok (.getfield 405, 3)) ?_
    rcases rv_if_e h with ⟨g3_, h⟩ | ⟨g3_, h⟩
    · refine re_icmp_ge_t (pc := 124) 147 (by decide +kernel : decode cX13_tryOrders 124 = .ok (.if_icmp .ge 23, 3)) (by decide) g3_ ?_
      cases h
      exact re_vret (by decide +kernel : decode cX13_tryOrders 147 = .ok (.return_, 1))
    · refine re_icmp_ge_f (pc := 124) 147 (by decide +kernel : decode cX13_tryOrders 124 = .ok (.if_icmp .ge 23, 3)) (by decide) g3_ ?_
      refine re_aloadn (pc := 127) 0 (by decide +kernel : decode cX13_tryOrders 127 = .ok (.aload_n 0, 1)) rfl ?_
      obtain ⟨a4_, g5_, h⟩ := rv_b_e h
      refine re_gR (pc := 128) g5_ lfX13_81 rfl (by decide +kernel : decode cX13_tryOrders 128 = .ok (.getfield 81, 3)) ?_
      refine re_iload (pc := 131) 1 (by decide +kernel : decode cX13_tryOrders 131 = .ok (.iload 4, 2)) rfl ?_
      refine re_aloadn (pc := 133) 0 (by decide +kernel : decode cX13_tryOrders 133 = .ok (.aload_n 0, 1)) rfl ?_
      obtain ⟨a6_, g7_, h⟩ := rv_b_e h
      refine re_gR (pc := 134) g7_ lfX13_78 rfl (by decide +kernel : decode cX13_tryOrders 134 = .ok (.getfield 78, 3)) ?_
      refine re_iload (pc := 137) 1 (by decide +kernel : decode cX13_tryOrders 137 = .ok (.iload 4, 2)) rfl ?_
      obtain ⟨x8_, g9_, h⟩ := rv_b_e h
      refine re_aI (pc := 139) g9_ (by decide +kernel : decode cX13_tryOrders 139 = .ok (.iaload, 1)) ?_
      obtain ⟨S10_, g11_, h⟩ := rv_b_e h
      refine re_uI (pc := 140) g11_ (by decide +kernel : decode cX13_tryOrders 140 = .ok (.iastore, 1)) ?_
      obtain ⟨x12_, g13_, h⟩ := rv_lt_e h
      refine re_iinc (pc := 141) 1 x12_ (lv1 := [(4, .int x12_), (0, .ref a0)]) (by decide +kernel : decode cX13_tryOrders 141 = .ok (.iinc 4 1, 3)) rfl g13_ (by decide) rfl ?_
      refine re_goto (pc := 144) 118 (by decide +kernel : decode cX13_tryOrders 144 = .ok (.goto (-26), 3)) (by decide) ?_
      refine re_sub [1, 0] (lv1 := [(0, .ref a0), (4, .int x12_)]) rfl ?_
      exact ih S10_ a0 x12_ _ h
noncomputable def cX13_tryOrders_97 (n : Nat) (G0 : rvS → Nat → Int32 → Int32 → Option rvS) (S : rvS) (a0 : Nat) (x3 : Int32) : Option rvS :=
  (rv_ck S 11 a0).bind fun u1_ =>
  (fnX13_layBack n S a0).bind fun S4_ =>
  (rv_gI S4_ 11 a0 42).bind fun x7_ =>
  if x7_ < x3 then (
    (rv_pI S4_ 11 a0 42 x3).bind fun S10_ =>
    cX13_tryOrders_118 n G0 n S10_ a0 (0 : Int32))
  else (
    some S4_)
set_option maxRecDepth 20000 in
set_option maxHeartbeats 4000000 in
theorem eX13_tryOrders_97 (n : Nat) (G0 : rvS → Nat → Int32 → Int32 → Option rvS) (d : Nat) (hG0 : ∀ (S : rvS) (z0 : Nat) (z1 : Int32) (z2 : Int32) (S' : rvS), G0 S z0 z1 z2 = some S' → rv_Met yX13_tryOrders mX13_tryOrders (7 + d) [.ref z0, .int z1, .int z2] S none S') (S : rvS) (a0 : Nat) (x3 : Int32) (S' : rvS) (h : cX13_tryOrders_97 n G0 S a0 x3 = some S') : rv_Ev mX13_tryOrders (7 + d + 1) 97 [(0, .ref a0), (3, .int x3)] [] S none S' := by
  unfold cX13_tryOrders_97 at h
  refine re_aloadn (pc := 97) 0 (by decide +kernel : decode cX13_tryOrders 97 = .ok (.aload_n 0, 1)) rfl ?_
  obtain ⟨u1_, g2_, h⟩ := rv_b_e h
  obtain ⟨S4_, g5_, h⟩ := rv_b_e h
  have m3_ := metX13_layBack n S a0 _ g5_
  have z6_ : rv_same S S4_ := m3_.sh rfl
  refine re_cV (pc := 98) [] m3_ (rv_okl.k z6_) (rv_up.sh z6_) (by omega) (rv_ck_e g2_) ⟨by decide, rfl⟩ (Nat.le_of_ble_eq_true rfl) lVX13_411 rfl (by decide +kernel : decode cX13_tryOrders 98 = .ok (.invokevirtual 411, 3)) ?_
  refine re_iloadn (pc := 101) 1 (by decide +kernel : decode cX13_tryOrders 101 = .ok (.iload_n 3, 1)) rfl ?_
  refine re_aloadn (pc := 102) 0 (by decide +kernel : decode cX13_tryOrders 102 = .ok (.aload_n 0, 1)) rfl ?_
  obtain ⟨x7_, g8_, h⟩ := rv_b_e h
  refine re_gI (pc := 103) g8_ lfX13_414 rfl (by decide +kernel : decode cX13_tryOrders 103 = .ok (.getfield 414, 3)) ?_
  rcases rv_if_e h with ⟨g9_, h⟩ | ⟨g9_, h⟩
  · refine re_icmp_gt_t (pc := 106) 110 (by decide +kernel : decode cX13_tryOrders 106 = .ok (.if_icmp .gt 4, 3)) (by decide) g9_ ?_
    refine re_aloadn (pc := 110) 0 (by decide +kernel : decode cX13_tryOrders 110 = .ok (.aload_n 0, 1)) rfl ?_
    refine re_iloadn (pc := 111) 1 (by decide +kernel : decode cX13_tryOrders 111 = .ok (.iload_n 3, 1)) rfl ?_
    obtain ⟨S10_, g11_, h⟩ := rv_b_e h
    refine re_pI (pc := 112) g11_ lfX13_414 rfl rfl rfl rfl (by decide +kernel : decode cX13_tryOrders 112 = .ok (.putfield 414, 3)) ?_
    refine re_iconst (pc := 115) (0 : Int32) (by decide +kernel : decode cX13_tryOrders 115 = .ok (.iconst 0, 1)) (by decide) ?_
    refine re_istore (pc := 116) (lv1 := [(4, .int (0 : Int32)), (0, .ref a0), (3, .int x3)]) (by decide +kernel : decode cX13_tryOrders 116 = .ok (.istore 4, 2)) (by decide) rfl ?_
    refine re_sub [1, 0] (lv1 := [(0, .ref a0), (4, .int (0 : Int32))]) rfl ?_
    exact eX13_tryOrders_118 n G0 d hG0 n S10_ a0 (0 : Int32) _ h
  · refine re_icmp_gt_f (pc := 106) 110 (by decide +kernel : decode cX13_tryOrders 106 = .ok (.if_icmp .gt 4, 3)) (by decide) g9_ ?_
    cases h
    exact re_vret (by decide +kernel : decode cX13_tryOrders 109 = .ok (.return_, 1))
noncomputable def cX13_tryOrders_65 (n : Nat) (G0 : rvS → Nat → Int32 → Int32 → Option rvS) : Nat → rvS → Nat → Int32 → Int32 → Option rvS
  | 0, _, _, _, _ => none
  | k + 1, S, a0, x3, x4 =>
    (rv_gI S 11 a0 41).bind fun x1_ =>
    if x1_ ≤ x4 then (
      cX13_tryOrders_97 n G0 S a0 x3)
    else (
      (rv_gR S 11 a0 39).bind fun a4_ =>
      (rv_aI S 0 a4_ x4).bind fun x6_ =>
      (rv_ck S 11 a0).bind fun u8_ =>
      rv_bp (fnX13_clearNow n S a0 x6_) fun x11_ S12_ =>
      if x11_ < 0 then (
        rv_lt (x4 + (1)) fun x16_ =>
        cX13_tryOrders_65 n G0 k S12_ a0 x3 x16_)
      else (
        rv_lt (x3 + (1)) fun x18_ =>
        rv_lt (x4 + (1)) fun x20_ =>
        cX13_tryOrders_65 n G0 k S12_ a0 x18_ x20_))
set_option maxRecDepth 20000 in
set_option maxHeartbeats 4000000 in
theorem eX13_tryOrders_65 (n : Nat) (G0 : rvS → Nat → Int32 → Int32 → Option rvS) (d : Nat) (hG0 : ∀ (S : rvS) (z0 : Nat) (z1 : Int32) (z2 : Int32) (S' : rvS), G0 S z0 z1 z2 = some S' → rv_Met yX13_tryOrders mX13_tryOrders (7 + d) [.ref z0, .int z1, .int z2] S none S') : ∀ (k : Nat) (S : rvS) (a0 : Nat) (x3 : Int32) (x4 : Int32) (S' : rvS), cX13_tryOrders_65 n G0 k S a0 x3 x4 = some S' → rv_Ev mX13_tryOrders (7 + d + 1) 65 [(0, .ref a0), (3, .int x3), (4, .int x4)] [] S none S' := by
  intro k
  induction k with
  | zero => intro S a0 x3 x4 S' h; exact absurd h (by simp [cX13_tryOrders_65])
  | succ k ih =>
    intro S a0 x3 x4 S' h
    unfold cX13_tryOrders_65 at h
    refine re_iload (pc := 65) 2 (by decide +kernel : decode cX13_tryOrders 65 = .ok (.iload 4, 2)) rfl ?_
    refine re_aloadn (pc := 67) 0 (by decide +kernel : decode cX13_tryOrders 67 = .ok (.aload_n 0, 1)) rfl ?_
    obtain ⟨x1_, g2_, h⟩ := rv_b_e h
    refine re_gI (pc := 68) g2_ lfX13_405 rfl (by decide +kernel : decode cX13_tryOrders 68 = .ok (.getfield 405, 3)) ?_
    rcases rv_if_e h with ⟨g3_, h⟩ | ⟨g3_, h⟩
    · refine re_icmp_ge_t (pc := 71) 97 (by decide +kernel : decode cX13_tryOrders 71 = .ok (.if_icmp .ge 26, 3)) (by decide) g3_ ?_
      refine re_sub [0, 1] (lv1 := [(0, .ref a0), (3, .int x3)]) rfl ?_
      exact eX13_tryOrders_97 n G0 d hG0 S a0 x3 _ h
    · refine re_icmp_ge_f (pc := 71) 97 (by decide +kernel : decode cX13_tryOrders 71 = .ok (.if_icmp .ge 26, 3)) (by decide) g3_ ?_
      refine re_aloadn (pc := 74) 0 (by decide +kernel : decode cX13_tryOrders 74 = .ok (.aload_n 0, 1)) rfl ?_
      refine re_aloadn (pc := 75) 0 (by decide +kernel : decode cX13_tryOrders 75 = .ok (.aload_n 0, 1)) rfl ?_
      obtain ⟨a4_, g5_, h⟩ := rv_b_e h
      refine re_gR (pc := 76) g5_ lfX13_78 rfl (by decide +kernel : decode cX13_tryOrders 76 = .ok (.getfield 78, 3)) ?_
      refine re_iload (pc := 79) 2 (by decide +kernel : decode cX13_tryOrders 79 = .ok (.iload 4, 2)) rfl ?_
      obtain ⟨x6_, g7_, h⟩ := rv_b_e h
      refine re_aI (pc := 81) g7_ (by decide +kernel : decode cX13_tryOrders 81 = .ok (.iaload, 1)) ?_
      obtain ⟨u8_, g9_, h⟩ := rv_b_e h
      obtain ⟨x11_, S12_, g13_, h⟩ := rv_bp_e h
      have m10_ := metX13_clearNow n S a0 x6_ _ _ g13_
      have z14_ : rv_same S S12_ := m10_.sh rfl
      refine re_cV (pc := 82) [.int x6_] m10_ (rv_okl.k z14_) (rv_up.sh z14_) (by omega) (rv_ck_e g9_) ⟨by decide, rfl⟩ (Nat.le_of_ble_eq_true rfl) lVX13_402 rfl (by decide +kernel : decode cX13_tryOrders 82 = .ok (.invokevirtual 402, 3)) ?_
      rcases rv_if_e h with ⟨g15_, h⟩ | ⟨g15_, h⟩
      · refine re_if_lt_t (pc := 85) 91 (by decide +kernel : decode cX13_tryOrders 85 = .ok (.ifCond .lt 6, 3)) (by decide) g15_ ?_
        obtain ⟨x16_, g17_, h⟩ := rv_lt_e h
        refine re_iinc (pc := 91) 2 x16_ (lv1 := [(4, .int x16_), (0, .ref a0), (3, .int x3)]) (by decide +kernel : decode cX13_tryOrders 91 = .ok (.iinc 4 1, 3)) rfl g17_ (by decide) rfl ?_
        refine re_goto (pc := 94) 65 (by decide +kernel : decode cX13_tryOrders 94 = .ok (.goto (-29), 3)) (by decide) ?_
        refine re_sub [1, 2, 0] (lv1 := [(0, .ref a0), (3, .int x3), (4, .int x16_)]) rfl ?_
        exact ih S12_ a0 x3 x16_ _ h
      · refine re_if_lt_f (pc := 85) 91 (by decide +kernel : decode cX13_tryOrders 85 = .ok (.ifCond .lt 6, 3)) (by decide) g15_ ?_
        obtain ⟨x18_, g19_, h⟩ := rv_lt_e h
        refine re_iinc (pc := 88) 1 x18_ (lv1 := [(3, .int x18_), (0, .ref a0), (4, .int x4)]) (by decide +kernel : decode cX13_tryOrders 88 = .ok (.iinc 3 1, 3)) rfl g19_ (by decide) rfl ?_
        obtain ⟨x20_, g21_, h⟩ := rv_lt_e h
        refine re_iinc (pc := 91) 2 x20_ (lv1 := [(4, .int x20_), (3, .int x18_), (0, .ref a0)]) (by decide +kernel : decode cX13_tryOrders 91 = .ok (.iinc 4 1, 3)) rfl g21_ (by decide) rfl ?_
        refine re_goto (pc := 94) 65 (by decide +kernel : decode cX13_tryOrders 94 = .ok (.goto (-29), 3)) (by decide) ?_
        refine re_sub [2, 1, 0] (lv1 := [(0, .ref a0), (3, .int x18_), (4, .int x20_)]) rfl ?_
        exact ih S12_ a0 x18_ x20_ _ h
noncomputable def fbX13_tryOrders (n : Nat) (G0 : rvS → Nat → Int32 → Int32 → Option rvS) (S : rvS) (a0 : Nat) (x1 : Int32) (x2 : Int32) : Option rvS :=
  (rv_gI S 11 a0 41).bind fun x1_ =>
  if x1_ ≤ x1 then (
    cX13_tryOrders_65 n G0 n S a0 (0 : Int32) (0 : Int32))
  else (
    cX13_tryOrders_10 n G0 n S a0 x1 x2 (0 : Int32))
set_option maxRecDepth 20000 in
set_option maxHeartbeats 4000000 in
theorem eX13_tryOrders_in (n : Nat) (G0 : rvS → Nat → Int32 → Int32 → Option rvS) (d : Nat) (hG0 : ∀ (S : rvS) (z0 : Nat) (z1 : Int32) (z2 : Int32) (S' : rvS), G0 S z0 z1 z2 = some S' → rv_Met yX13_tryOrders mX13_tryOrders (7 + d) [.ref z0, .int z1, .int z2] S none S') (S : rvS) (a0 : Nat) (x1 : Int32) (x2 : Int32) (S' : rvS) (h : fbX13_tryOrders n G0 S a0 x1 x2 = some S') : rv_Ev mX13_tryOrders (7 + d + 1) 0 [(0, .ref a0), (1, .int x1), (2, .int x2)] [] S none S' := by
  unfold fbX13_tryOrders at h
  refine re_iloadn (pc := 0) 1 (by decide +kernel : decode cX13_tryOrders 0 = .ok (.iload_n 1, 1)) rfl ?_
  refine re_aloadn (pc := 1) 0 (by decide +kernel : decode cX13_tryOrders 1 = .ok (.aload_n 0, 1)) rfl ?_
  obtain ⟨x1_, g2_, h⟩ := rv_b_e h
  refine re_gI (pc := 2) g2_ lfX13_405 rfl (by decide +kernel : decode cX13_tryOrders 2 = .ok (.getfield 405, 3)) ?_
  rcases rv_if_e h with ⟨g3_, h⟩ | ⟨g3_, h⟩
  · refine re_icmp_ge_t (pc := 5) 60 (by decide +kernel : decode cX13_tryOrders 5 = .ok (.if_icmp .ge 55, 3)) (by decide) g3_ ?_
    refine re_iconst (pc := 60) (0 : Int32) (by decide +kernel : decode cX13_tryOrders 60 = .ok (.iconst 0, 1)) (by decide) ?_
    refine re_istoren (pc := 61) (lv1 := [(3, .int (0 : Int32)), (0, .ref a0), (1, .int x1), (2, .int x2)]) (by decide +kernel : decode cX13_tryOrders 61 = .ok (.istore_n 3, 1)) rfl (by decide) rfl ?_
    refine re_iconst (pc := 62) (0 : Int32) (by decide +kernel : decode cX13_tryOrders 62 = .ok (.iconst 0, 1)) (by decide) ?_
    refine re_istore (pc := 63) (lv1 := [(4, .int (0 : Int32)), (3, .int (0 : Int32)), (0, .ref a0), (1, .int x1), (2, .int x2)]) (by decide +kernel : decode cX13_tryOrders 63 = .ok (.istore 4, 2)) (by decide) rfl ?_
    refine re_sub [2, 1, 0] (lv1 := [(0, .ref a0), (3, .int (0 : Int32)), (4, .int (0 : Int32))]) rfl ?_
    exact eX13_tryOrders_65 n G0 d hG0 n S a0 (0 : Int32) (0 : Int32) _ h
  · refine re_icmp_ge_f (pc := 5) 60 (by decide +kernel : decode cX13_tryOrders 5 = .ok (.if_icmp .ge 55, 3)) (by decide) g3_ ?_
    refine re_iconst (pc := 8) (0 : Int32) (by decide +kernel : decode cX13_tryOrders 8 = .ok (.iconst 0, 1)) (by decide) ?_
    refine re_istoren (pc := 9) (lv1 := [(3, .int (0 : Int32)), (0, .ref a0), (1, .int x1), (2, .int x2)]) (by decide +kernel : decode cX13_tryOrders 9 = .ok (.istore_n 3, 1)) rfl (by decide) rfl ?_
    refine re_sub [1, 2, 3, 0] (lv1 := [(0, .ref a0), (1, .int x1), (2, .int x2), (3, .int (0 : Int32))]) rfl ?_
    exact eX13_tryOrders_10 n G0 d hG0 n S a0 x1 x2 (0 : Int32) _ h
noncomputable def fGX13_tryOrders (n : Nat) : Nat → (rvS → Nat → Int32 → Int32 → Option rvS)
  | 0 => (fun _ _ _ _ => none)
  | d + 1 => (fbX13_tryOrders n ((fGX13_tryOrders n d)))
theorem fGX13_tryOrders_ok (n : Nat) : ∀ d : Nat, (∀ (S : rvS) (z0 : Nat) (z1 : Int32) (z2 : Int32) (S' : rvS), ((fGX13_tryOrders n d)) S z0 z1 z2 = some S' → rv_Met yX13_tryOrders mX13_tryOrders (7 + d) [.ref z0, .int z1, .int z2] S none S') := by
  intro d
  induction d with
  | zero => exact (by intros; rename_i h; exact absurd h (by simp [fGX13_tryOrders]))
  | succ d ih =>
    have i0 := ih
    exact (fun S z0 z1 z2 S' h => rv_Met.of ⟨by decide +kernel, rfl, (fun z => by first | rfl | cases z), rfl⟩ (Nat.le_of_ble_eq_true rfl) rfl (eX13_tryOrders_in n ((fGX13_tryOrders n d)) d i0 S z0 z1 z2 S' h))
noncomputable def fnX13_tryOrders (n d : Nat) : rvS → Nat → Int32 → Int32 → Option rvS := (fGX13_tryOrders n d)
theorem metX13_tryOrders (n d : Nat) (S : rvS) (z0 : Nat) (z1 : Int32) (z2 : Int32) (S' : rvS) (h : fnX13_tryOrders n d S z0 z1 z2 = some S') : rv_Met yX13_tryOrders mX13_tryOrders (7 + d) [.ref z0, .int z1, .int z2] S none S' := (fGX13_tryOrders_ok n d) S z0 z1 z2 S' h
noncomputable def cX13_orders_130 (n : Nat) (S : rvS) (a0 : Nat) (x1 : Int32) : Option (Int32 × rvS) :=
  (rv_pI S 11 a0 41 x1).bind fun S1_ =>
  (rv_pI S1_ 11 a0 42 (-1 : Int32)).bind fun S3_ =>
  (rv_ck S3_ 11 a0).bind fun u5_ =>
  (fnX13_layAside n S3_ a0).bind fun S8_ =>
  (rv_ck S8_ 11 a0).bind fun u11_ =>
  (fnX13_tryOrders n 8 S8_ a0 (0 : Int32) (0 : Int32)).bind fun S14_ =>
  (rv_pI S14_ 11 a0 43 x1).bind fun S17_ =>
  (rv_gI S17_ 11 a0 42).bind fun x19_ =>
  some (x19_, S17_)
set_option maxRecDepth 20000 in
set_option maxHeartbeats 4000000 in
theorem eX13_orders_130 (n : Nat) (S : rvS) (a0 : Nat) (x1 : Int32) (r : Int32) (S' : rvS) (h : cX13_orders_130 n S a0 x1 = some (r, S')) : rv_Ev mX13_orders 16 130 [(0, .ref a0), (1, .int x1)] [] S (some (.int r)) S' := by
  unfold cX13_orders_130 at h
  refine re_aloadn (pc := 130) 0 (by decide +kernel : decode cX13_orders 130 = .ok (.aload_n 0, 1)) rfl ?_
  refine re_iloadn (pc := 131) 1 (by decide +kernel : decode cX13_orders 131 = .ok (.iload_n 1, 1)) rfl ?_
  obtain ⟨S1_, g2_, h⟩ := rv_b_e h
  refine re_pI (pc := 132) g2_ lfX13_405 rfl rfl rfl rfl (by decide +kernel : decode cX13_orders 132 = .ok (.putfield 405, 3)) ?_
  refine re_aloadn (pc := 135) 0 (by decide +kernel : decode cX13_orders 135 = .ok (.aload_n 0, 1)) rfl ?_
  refine re_iconst (pc := 136) (-1 : Int32) (by decide +kernel : decode cX13_orders 136 = .ok (.iconst (-1), 1)) (by decide) ?_
  obtain ⟨S3_, g4_, h⟩ := rv_b_e h
  refine re_pI (pc := 137) g4_ lfX13_414 rfl rfl rfl rfl (by decide +kernel : decode cX13_orders 137 = .ok (.putfield 414, 3)) ?_
  refine re_aloadn (pc := 140) 0 (by decide +kernel : decode cX13_orders 140 = .ok (.aload_n 0, 1)) rfl ?_
  obtain ⟨u5_, g6_, h⟩ := rv_b_e h
  obtain ⟨S8_, g9_, h⟩ := rv_b_e h
  have m7_ := metX13_layAside n S3_ a0 _ g9_
  have z10_ : rv_same S3_ S8_ := m7_.sh rfl
  refine re_cV (pc := 141) [] m7_ (rv_okl.k z10_) (rv_up.sh z10_) (by decide) (rv_ck_e g6_) ⟨by decide, rfl⟩ (Nat.le_of_ble_eq_true rfl) lVX13_417 rfl (by decide +kernel : decode cX13_orders 141 = .ok (.invokevirtual 417, 3)) ?_
  refine re_aloadn (pc := 144) 0 (by decide +kernel : decode cX13_orders 144 = .ok (.aload_n 0, 1)) rfl ?_
  refine re_iconst (pc := 145) (0 : Int32) (by decide +kernel : decode cX13_orders 145 = .ok (.iconst 0, 1)) (by decide) ?_
  refine re_iconst (pc := 146) (0 : Int32) (by decide +kernel : decode cX13_orders 146 = .ok (.iconst 0, 1)) (by decide) ?_
  obtain ⟨u11_, g12_, h⟩ := rv_b_e h
  obtain ⟨S14_, g15_, h⟩ := rv_b_e h
  have m13_ := metX13_tryOrders n 8 S8_ a0 (0 : Int32) (0 : Int32) _ g15_
  have z16_ : rv_same S8_ S14_ := m13_.sh rfl
  refine re_cV (pc := 147) [.int (0 : Int32), .int (0 : Int32)] m13_ (rv_okl.k z16_) (rv_up.sh z16_) (by decide) (rv_ck_e g12_) ⟨by decide, rfl⟩ (Nat.le_of_ble_eq_true rfl) lVX13_408 rfl (by decide +kernel : decode cX13_orders 147 = .ok (.invokevirtual 408, 3)) ?_
  refine re_aloadn (pc := 150) 0 (by decide +kernel : decode cX13_orders 150 = .ok (.aload_n 0, 1)) rfl ?_
  refine re_iloadn (pc := 151) 1 (by decide +kernel : decode cX13_orders 151 = .ok (.iload_n 1, 1)) rfl ?_
  obtain ⟨S17_, g18_, h⟩ := rv_b_e h
  refine re_pI (pc := 152) g18_ lfX13_420 rfl rfl rfl rfl (by decide +kernel : decode cX13_orders 152 = .ok (.putfield 420, 3)) ?_
  refine re_aloadn (pc := 155) 0 (by decide +kernel : decode cX13_orders 155 = .ok (.aload_n 0, 1)) rfl ?_
  obtain ⟨x19_, g20_, h⟩ := rv_b_e h
  refine re_gI (pc := 156) g20_ lfX13_414 rfl (by decide +kernel : decode cX13_orders 156 = .ok (.getfield 414, 3)) ?_
  cases h
  exact re_iret (fun ty hty => by cases hty; rfl) (by decide +kernel : decode cX13_orders 159 = .ok (.ireturn, 1))
noncomputable def cX13_orders_107 (n : Nat) : Nat → rvS → Nat → Int32 → Int32 → Option (Int32 × rvS)
  | 0, _, _, _, _ => none
  | k + 1, S, a0, x1, x3 =>
    if x1 ≤ x3 then (
      cX13_orders_130 n S a0 x1)
    else (
      (rv_gR S 11 a0 38).bind fun a2_ =>
      (rv_gR S 11 a0 44).bind fun a4_ =>
      (rv_aI S 0 a4_ x3).bind fun x6_ =>
      (rv_uI S a2_ x3 x6_).bind fun S8_ =>
      rv_lt (x3 + (1)) fun x10_ =>
      cX13_orders_107 n k S8_ a0 x1 x10_)
set_option maxRecDepth 20000 in
set_option maxHeartbeats 4000000 in
theorem eX13_orders_107 (n : Nat) : ∀ (k : Nat) (S : rvS) (a0 : Nat) (x1 : Int32) (x3 : Int32) (r : Int32) (S' : rvS), cX13_orders_107 n k S a0 x1 x3 = some (r, S') → rv_Ev mX13_orders 16 107 [(0, .ref a0), (1, .int x1), (3, .int x3)] [] S (some (.int r)) S' := by
  intro k
  induction k with
  | zero => intro S a0 x1 x3 r S' h; exact absurd h (by simp [cX13_orders_107])
  | succ k ih =>
    intro S a0 x1 x3 r S' h
    unfold cX13_orders_107 at h
    refine re_iloadn (pc := 107) 2 (by decide +kernel : decode cX13_orders 107 = .ok (.iload_n 3, 1)) rfl ?_
    refine re_iloadn (pc := 108) 1 (by decide +kernel : decode cX13_orders 108 = .ok (.iload_n 1, 1)) rfl ?_
    rcases rv_if_e h with ⟨g1_, h⟩ | ⟨g1_, h⟩
    · refine re_icmp_ge_t (pc := 109) 130 (by decide +kernel : decode cX13_orders 109 = .ok (.if_icmp .ge 21, 3)) (by decide) g1_ ?_
      refine re_sub [0, 1] (lv1 := [(0, .ref a0), (1, .int x1)]) rfl ?_
      exact eX13_orders_130 n S a0 x1 _ _ h
    · refine re_icmp_ge_f (pc := 109) 130 (by decide +kernel : decode cX13_orders 109 = .ok (.if_icmp .ge 21, 3)) (by decide) g1_ ?_
      refine re_aloadn (pc := 112) 0 (by decide +kernel : decode cX13_orders 112 = .ok (.aload_n 0, 1)) rfl ?_
      obtain ⟨a2_, g3_, h⟩ := rv_b_e h
      refine re_gR (pc := 113) g3_ lfX13_75 rfl (by decide +kernel : decode cX13_orders 113 = .ok (.getfield 75, 3)) ?_
      refine re_iloadn (pc := 116) 2 (by decide +kernel : decode cX13_orders 116 = .ok (.iload_n 3, 1)) rfl ?_
      refine re_aloadn (pc := 117) 0 (by decide +kernel : decode cX13_orders 117 = .ok (.aload_n 0, 1)) rfl ?_
      obtain ⟨a4_, g5_, h⟩ := rv_b_e h
      refine re_gR (pc := 118) g5_ lfX13_84 rfl (by decide +kernel : decode cX13_orders 118 = .ok (.getfield 84, 3)) ?_
      refine re_iloadn (pc := 121) 2 (by decide +kernel : decode cX13_orders 121 = .ok (.iload_n 3, 1)) rfl ?_
      obtain ⟨x6_, g7_, h⟩ := rv_b_e h
      refine re_aI (pc := 122) g7_ (by decide +kernel : decode cX13_orders 122 = .ok (.iaload, 1)) ?_
      obtain ⟨S8_, g9_, h⟩ := rv_b_e h
      refine re_uI (pc := 123) g9_ (by decide +kernel : decode cX13_orders 123 = .ok (.iastore, 1)) ?_
      obtain ⟨x10_, g11_, h⟩ := rv_lt_e h
      refine re_iinc (pc := 124) 2 x10_ (lv1 := [(3, .int x10_), (0, .ref a0), (1, .int x1)]) (by decide +kernel : decode cX13_orders 124 = .ok (.iinc 3 1, 3)) rfl g11_ (by decide) rfl ?_
      refine re_goto (pc := 127) 107 (by decide +kernel : decode cX13_orders 127 = .ok (.goto (-20), 3)) (by decide) ?_
      refine re_sub [1, 2, 0] (lv1 := [(0, .ref a0), (1, .int x1), (3, .int x10_)]) rfl ?_
      exact ih S8_ a0 x1 x10_ _ _ h
noncomputable def cX13_orders_29 (n : Nat) : Nat → rvS → Nat → Int32 → Int32 → Int32 → Option (Int32 × rvS)
  | 0, _, _, _, _, _ => none
  | k + 1, S, a0, x1, x2, x3 =>
    if x1 ≤ x3 then (
      cX13_orders_107 n n S a0 x1 (0 : Int32))
    else (
      (rv_gR S 11 a0 44).bind fun a2_ =>
      (rv_gR S 11 a0 1).bind fun a4_ =>
      (rv_aI S 0 a4_ x3).bind fun x6_ =>
      (rv_uI S a2_ x3 x6_).bind fun S8_ =>
      (rv_gR S8_ 11 a0 44).bind fun a10_ =>
      (rv_aI S8_ 0 a10_ x3).bind fun x12_ =>
      (rv_ck S8_ 11 a0).bind fun u14_ =>
      (fnX13_isDebt n S8_ a0 x12_).bind fun x17_ =>
      if x17_ = 0 then (
        some ((-1 : Int32), S8_))
      else (
        (rv_gR S8_ 11 a0 44).bind fun a20_ =>
        (rv_aI S8_ 0 a20_ x3).bind fun x22_ =>
        (rv_ck S8_ 11 a0).bind fun u24_ =>
        (fnX13_ofDebt n S8_ a0 x22_ (3 : Int32)).bind fun x27_ =>
        if 0 < x27_ then (
          some ((-1 : Int32), S8_))
        else (
          (rv_gR S8_ 11 a0 44).bind fun a30_ =>
          (rv_aI S8_ 0 a30_ x3).bind fun x32_ =>
          (fnX13_has n S8_ x2 x32_).bind fun x35_ =>
          if x35_ = 0 then (
            (rv_gR S8_ 11 a0 44).bind fun a38_ =>
            (rv_aI S8_ 0 a38_ x3).bind fun x40_ =>
            rv_lt (x2 ||| ((1 : Int32) <<< (x40_ &&& 31))) fun x42_ =>
            rv_lt (x3 + (1)) fun x44_ =>
            cX13_orders_29 n k S8_ a0 x1 x42_ x44_)
          else (
            some ((-1 : Int32), S8_)))))
set_option maxRecDepth 20000 in
set_option maxHeartbeats 4000000 in
theorem eX13_orders_29 (n : Nat) : ∀ (k : Nat) (S : rvS) (a0 : Nat) (x1 : Int32) (x2 : Int32) (x3 : Int32) (r : Int32) (S' : rvS), cX13_orders_29 n k S a0 x1 x2 x3 = some (r, S') → rv_Ev mX13_orders 16 29 [(0, .ref a0), (1, .int x1), (2, .int x2), (3, .int x3)] [] S (some (.int r)) S' := by
  intro k
  induction k with
  | zero => intro S a0 x1 x2 x3 r S' h; exact absurd h (by simp [cX13_orders_29])
  | succ k ih =>
    intro S a0 x1 x2 x3 r S' h
    unfold cX13_orders_29 at h
    refine re_iloadn (pc := 29) 3 (by decide +kernel : decode cX13_orders 29 = .ok (.iload_n 3, 1)) rfl ?_
    refine re_iloadn (pc := 30) 1 (by decide +kernel : decode cX13_orders 30 = .ok (.iload_n 1, 1)) rfl ?_
    rcases rv_if_e h with ⟨g1_, h⟩ | ⟨g1_, h⟩
    · refine re_icmp_ge_t (pc := 31) 105 (by decide +kernel : decode cX13_orders 31 = .ok (.if_icmp .ge 74, 3)) (by decide) g1_ ?_
      refine re_iconst (pc := 105) (0 : Int32) (by decide +kernel : decode cX13_orders 105 = .ok (.iconst 0, 1)) (by decide) ?_
      refine re_istoren (pc := 106) (lv1 := [(3, .int (0 : Int32)), (0, .ref a0), (1, .int x1), (2, .int x2)]) (by decide +kernel : decode cX13_orders 106 = .ok (.istore_n 3, 1)) rfl (by decide) rfl ?_
      refine re_sub [1, 2, 0] (lv1 := [(0, .ref a0), (1, .int x1), (3, .int (0 : Int32))]) rfl ?_
      exact eX13_orders_107 n n S a0 x1 (0 : Int32) _ _ h
    · refine re_icmp_ge_f (pc := 31) 105 (by decide +kernel : decode cX13_orders 31 = .ok (.if_icmp .ge 74, 3)) (by decide) g1_ ?_
      refine re_aloadn (pc := 34) 0 (by decide +kernel : decode cX13_orders 34 = .ok (.aload_n 0, 1)) rfl ?_
      obtain ⟨a2_, g3_, h⟩ := rv_b_e h
      refine re_gR (pc := 35) g3_ lfX13_84 rfl (by decide +kernel : decode cX13_orders 35 = .ok (.getfield 84, 3)) ?_
      refine re_iloadn (pc := 38) 3 (by decide +kernel : decode cX13_orders 38 = .ok (.iload_n 3, 1)) rfl ?_
      refine re_aloadn (pc := 39) 0 (by decide +kernel : decode cX13_orders 39 = .ok (.aload_n 0, 1)) rfl ?_
      obtain ⟨a4_, g5_, h⟩ := rv_b_e h
      refine re_gR (pc := 40) g5_ lfX13_7 rfl (by decide +kernel : decode cX13_orders 40 = .ok (.getfield 7, 3)) ?_
      refine re_iloadn (pc := 43) 3 (by decide +kernel : decode cX13_orders 43 = .ok (.iload_n 3, 1)) rfl ?_
      obtain ⟨x6_, g7_, h⟩ := rv_b_e h
      refine re_aI (pc := 44) g7_ (by decide +kernel : decode cX13_orders 44 = .ok (.iaload, 1)) ?_
      obtain ⟨S8_, g9_, h⟩ := rv_b_e h
      refine re_uI (pc := 45) g9_ (by decide +kernel : decode cX13_orders 45 = .ok (.iastore, 1)) ?_
      refine re_aloadn (pc := 46) 0 (by decide +kernel : decode cX13_orders 46 = .ok (.aload_n 0, 1)) rfl ?_
      refine re_aloadn (pc := 47) 0 (by decide +kernel : decode cX13_orders 47 = .ok (.aload_n 0, 1)) rfl ?_
      obtain ⟨a10_, g11_, h⟩ := rv_b_e h
      refine re_gR (pc := 48) g11_ lfX13_84 rfl (by decide +kernel : decode cX13_orders 48 = .ok (.getfield 84, 3)) ?_
      refine re_iloadn (pc := 51) 3 (by decide +kernel : decode cX13_orders 51 = .ok (.iload_n 3, 1)) rfl ?_
      obtain ⟨x12_, g13_, h⟩ := rv_b_e h
      refine re_aI (pc := 52) g13_ (by decide +kernel : decode cX13_orders 52 = .ok (.iaload, 1)) ?_
      obtain ⟨u14_, g15_, h⟩ := rv_b_e h
      obtain ⟨x17_, g18_, h⟩ := rv_b_e h
      have m16_ := metX13_isDebt n S8_ a0 x12_ _ g18_
      refine re_cV (pc := 53) [.int x12_] m16_ (rv_okl.k ⟨rfl, rfl⟩) (rv_up.rf _ _) (by decide) (rv_ck_e g15_) ⟨by decide, rfl⟩ (Nat.le_of_ble_eq_true rfl) lVX13_396 rfl (by decide +kernel : decode cX13_orders 53 = .ok (.invokevirtual 396, 3)) ?_
      rcases rv_if_e h with ⟨g19_, h⟩ | ⟨g19_, h⟩
      · refine re_if_eq_t (pc := 56) 86 (by decide +kernel : decode cX13_orders 56 = .ok (.ifCond .eq 30, 3)) (by decide) g19_ ?_
        refine re_iconst (pc := 86) (-1 : Int32) (by decide +kernel : decode cX13_orders 86 = .ok (.iconst (-1), 1)) (by decide) ?_
        cases h
        exact re_iret (fun ty hty => by cases hty; rfl) (by decide +kernel : decode cX13_orders 87 = .ok (.ireturn, 1))
      · refine re_if_eq_f (pc := 56) 86 (by decide +kernel : decode cX13_orders 56 = .ok (.ifCond .eq 30, 3)) (by decide) g19_ ?_
        refine re_aloadn (pc := 59) 0 (by decide +kernel : decode cX13_orders 59 = .ok (.aload_n 0, 1)) rfl ?_
        refine re_aloadn (pc := 60) 0 (by decide +kernel : decode cX13_orders 60 = .ok (.aload_n 0, 1)) rfl ?_
        obtain ⟨a20_, g21_, h⟩ := rv_b_e h
        refine re_gR (pc := 61) g21_ lfX13_84 rfl (by decide +kernel : decode cX13_orders 61 = .ok (.getfield 84, 3)) ?_
        refine re_iloadn (pc := 64) 3 (by decide +kernel : decode cX13_orders 64 = .ok (.iload_n 3, 1)) rfl ?_
        obtain ⟨x22_, g23_, h⟩ := rv_b_e h
        refine re_aI (pc := 65) g23_ (by decide +kernel : decode cX13_orders 65 = .ok (.iaload, 1)) ?_
        refine re_iconst (pc := 66) (3 : Int32) (by decide +kernel : decode cX13_orders 66 = .ok (.iconst 3, 1)) (by decide) ?_
        obtain ⟨u24_, g25_, h⟩ := rv_b_e h
        obtain ⟨x27_, g28_, h⟩ := rv_b_e h
        have m26_ := metX13_ofDebt n S8_ a0 x22_ (3 : Int32) _ g28_
        refine re_cV (pc := 67) [.int x22_, .int (3 : Int32)] m26_ (rv_okl.k ⟨rfl, rfl⟩) (rv_up.rf _ _) (by decide) (rv_ck_e g25_) ⟨by decide, rfl⟩ (Nat.le_of_ble_eq_true rfl) lVX13_399 rfl (by decide +kernel : decode cX13_orders 67 = .ok (.invokevirtual 399, 3)) ?_
        rcases rv_if_e h with ⟨g29_, h⟩ | ⟨g29_, h⟩
        · refine re_if_gt_t (pc := 70) 86 (by decide +kernel : decode cX13_orders 70 = .ok (.ifCond .gt 16, 3)) (by decide) g29_ ?_
          refine re_iconst (pc := 86) (-1 : Int32) (by decide +kernel : decode cX13_orders 86 = .ok (.iconst (-1), 1)) (by decide) ?_
          cases h
          exact re_iret (fun ty hty => by cases hty; rfl) (by decide +kernel : decode cX13_orders 87 = .ok (.ireturn, 1))
        · refine re_if_gt_f (pc := 70) 86 (by decide +kernel : decode cX13_orders 70 = .ok (.ifCond .gt 16, 3)) (by decide) g29_ ?_
          refine re_iloadn (pc := 73) 2 (by decide +kernel : decode cX13_orders 73 = .ok (.iload_n 2, 1)) rfl ?_
          refine re_aloadn (pc := 74) 0 (by decide +kernel : decode cX13_orders 74 = .ok (.aload_n 0, 1)) rfl ?_
          obtain ⟨a30_, g31_, h⟩ := rv_b_e h
          refine re_gR (pc := 75) g31_ lfX13_84 rfl (by decide +kernel : decode cX13_orders 75 = .ok (.getfield 84, 3)) ?_
          refine re_iloadn (pc := 78) 3 (by decide +kernel : decode cX13_orders 78 = .ok (.iload_n 3, 1)) rfl ?_
          obtain ⟨x32_, g33_, h⟩ := rv_b_e h
          refine re_aI (pc := 79) g33_ (by decide +kernel : decode cX13_orders 79 = .ok (.iaload, 1)) ?_
          obtain ⟨x35_, g36_, h⟩ := rv_b_e h
          have m34_ := metX13_has n S8_ x2 x32_ _ g36_
          refine re_cS (pc := 80) [.int x2, .int x32_] m34_ (rv_okl.k ⟨rfl, rfl⟩) (rv_up.rf _ _) (by decide) (Nat.le_of_ble_eq_true rfl) lSX13_205 rfl (by decide +kernel : decode cX13_orders 80 = .ok (.invokestatic 205, 3)) ?_
          rcases rv_if_e h with ⟨g37_, h⟩ | ⟨g37_, h⟩
          · refine re_if_eq_t (pc := 83) 88 (by decide +kernel : decode cX13_orders 83 = .ok (.ifCond .eq 5, 3)) (by decide) g37_ ?_
            refine re_iloadn (pc := 88) 2 (by decide +kernel : decode cX13_orders 88 = .ok (.iload_n 2, 1)) rfl ?_
            refine re_iconst (pc := 89) (1 : Int32) (by decide +kernel : decode cX13_orders 89 = .ok (.iconst 1, 1)) (by decide) ?_
            refine re_aloadn (pc := 90) 0 (by decide +kernel : decode cX13_orders 90 = .ok (.aload_n 0, 1)) rfl ?_
            obtain ⟨a38_, g39_, h⟩ := rv_b_e h
            refine re_gR (pc := 91) g39_ lfX13_84 rfl (by decide +kernel : decode cX13_orders 91 = .ok (.getfield 84, 3)) ?_
            refine re_iloadn (pc := 94) 3 (by decide +kernel : decode cX13_orders 94 = .ok (.iload_n 3, 1)) rfl ?_
            obtain ⟨x40_, g41_, h⟩ := rv_b_e h
            refine re_aI (pc := 95) g41_ (by decide +kernel : decode cX13_orders 95 = .ok (.iaload, 1)) ?_
            refine re_ishl (pc := 96) (by decide +kernel : decode cX13_orders 96 = .ok (.ishl, 1)) ?_
            refine re_ior (pc := 97) (by decide +kernel : decode cX13_orders 97 = .ok (.ior, 1)) ?_
            obtain ⟨x42_, g43_, h⟩ := rv_lt_e h
            refine re_nI (pc := 98) g43_ ?_
            refine re_istoren (pc := 98) (lv1 := [(2, .int x42_), (0, .ref a0), (1, .int x1), (3, .int x3)]) (by decide +kernel : decode cX13_orders 98 = .ok (.istore_n 2, 1)) rfl (by decide) rfl ?_
            obtain ⟨x44_, g45_, h⟩ := rv_lt_e h
            refine re_iinc (pc := 99) 3 x44_ (lv1 := [(3, .int x44_), (2, .int x42_), (0, .ref a0), (1, .int x1)]) (by decide +kernel : decode cX13_orders 99 = .ok (.iinc 3 1, 3)) rfl g45_ (by decide) rfl ?_
            refine re_goto (pc := 102) 29 (by decide +kernel : decode cX13_orders 102 = .ok (.goto (-73), 3)) (by decide) ?_
            refine re_sub [2, 3, 1, 0] (lv1 := [(0, .ref a0), (1, .int x1), (2, .int x42_), (3, .int x44_)]) rfl ?_
            exact ih S8_ a0 x1 x42_ x44_ _ _ h
          · refine re_if_eq_f (pc := 83) 88 (by decide +kernel : decode cX13_orders 83 = .ok (.ifCond .eq 5, 3)) (by decide) g37_ ?_
            refine re_iconst (pc := 86) (-1 : Int32) (by decide +kernel : decode cX13_orders 86 = .ok (.iconst (-1), 1)) (by decide) ?_
            cases h
            exact re_iret (fun ty hty => by cases hty; rfl) (by decide +kernel : decode cX13_orders 87 = .ok (.ireturn, 1))
noncomputable def fnX13_orders (n : Nat) (S : rvS) (a0 : Nat) : Option (Int32 × rvS) :=
  (rv_pI S 11 a0 0 (0 : Int32)).bind fun S1_ =>
  (rv_ck S1_ 11 a0).bind fun u3_ =>
  (fnX13_lay n S1_ a0).bind fun S6_ =>
  (rv_ck S6_ 11 a0).bind fun u9_ =>
  rv_bp (fnX13_take n S6_ a0) fun x12_ S13_ =>
  (fnX13_isIn n S13_ x12_ (1 : Int32) (5 : Int32)).bind fun x17_ =>
  if x17_ = 0 then (
    some ((-1 : Int32), S13_))
  else (
    cX13_orders_29 n n S13_ a0 x12_ (0 : Int32) (0 : Int32))
set_option maxRecDepth 20000 in
set_option maxHeartbeats 4000000 in
theorem eX13_orders_in (n : Nat) (S : rvS) (a0 : Nat) (r : Int32) (S' : rvS) (h : fnX13_orders n S a0 = some (r, S')) : rv_Ev mX13_orders 16 0 [(0, .ref a0)] [] S (some (.int r)) S' := by
  unfold fnX13_orders at h
  refine re_aloadn (pc := 0) 0 (by decide +kernel : decode cX13_orders 0 = .ok (.aload_n 0, 1)) rfl ?_
  refine re_iconst (pc := 1) (0 : Int32) (by decide +kernel : decode cX13_orders 1 = .ok (.iconst 0, 1)) (by decide) ?_
  obtain ⟨S1_, g2_, h⟩ := rv_b_e h
  refine re_pI (pc := 2) g2_ lfX13_99 rfl rfl rfl rfl (by decide +kernel : decode cX13_orders 2 = .ok (.putfield 99, 3)) ?_
  refine re_aloadn (pc := 5) 0 (by decide +kernel : decode cX13_orders 5 = .ok (.aload_n 0, 1)) rfl ?_
  obtain ⟨u3_, g4_, h⟩ := rv_b_e h
  obtain ⟨S6_, g7_, h⟩ := rv_b_e h
  have m5_ := metX13_lay n S1_ a0 _ g7_
  have z8_ : rv_same S1_ S6_ := m5_.sh rfl
  refine re_cV (pc := 6) [] m5_ (rv_okl.k z8_) (rv_up.sh z8_) (by decide) (rv_ck_e g4_) ⟨by decide, rfl⟩ (Nat.le_of_ble_eq_true rfl) lVX13_187 rfl (by decide +kernel : decode cX13_orders 6 = .ok (.invokevirtual 187, 3)) ?_
  refine re_aloadn (pc := 9) 0 (by decide +kernel : decode cX13_orders 9 = .ok (.aload_n 0, 1)) rfl ?_
  obtain ⟨u9_, g10_, h⟩ := rv_b_e h
  obtain ⟨x12_, S13_, g14_, h⟩ := rv_bp_e h
  have m11_ := metX13_take n S6_ a0 _ _ g14_
  have z15_ : rv_same S6_ S13_ := m11_.sh rfl
  refine re_cV (pc := 10) [] m11_ (rv_okl.k z15_) (rv_up.sh z15_) (by decide) (rv_ck_e g10_) ⟨by decide, rfl⟩ (Nat.le_of_ble_eq_true rfl) lVX13_190 rfl (by decide +kernel : decode cX13_orders 10 = .ok (.invokevirtual 190, 3)) ?_
  refine re_istoren (pc := 13) (lv1 := [(1, .int x12_), (0, .ref a0)]) (by decide +kernel : decode cX13_orders 13 = .ok (.istore_n 1, 1)) rfl (by decide) rfl ?_
  refine re_iloadn (pc := 14) 0 (by decide +kernel : decode cX13_orders 14 = .ok (.iload_n 1, 1)) rfl ?_
  refine re_iconst (pc := 15) (1 : Int32) (by decide +kernel : decode cX13_orders 15 = .ok (.iconst 1, 1)) (by decide) ?_
  refine re_iconst (pc := 16) (5 : Int32) (by decide +kernel : decode cX13_orders 16 = .ok (.iconst 5, 1)) (by decide) ?_
  obtain ⟨x17_, g18_, h⟩ := rv_b_e h
  have m16_ := metX13_isIn n S13_ x12_ (1 : Int32) (5 : Int32) _ g18_
  refine re_cS (pc := 17) [.int x12_, .int (1 : Int32), .int (5 : Int32)] m16_ (rv_okl.k ⟨rfl, rfl⟩) (rv_up.rf _ _) (by decide) (Nat.le_of_ble_eq_true rfl) lSX13_170 rfl (by decide +kernel : decode cX13_orders 17 = .ok (.invokestatic 170, 3)) ?_
  rcases rv_if_e h with ⟨g19_, h⟩ | ⟨g19_, h⟩
  · refine re_if_ne_f (pc := 20) 25 (by decide +kernel : decode cX13_orders 20 = .ok (.ifCond .ne 5, 3)) (by decide) g19_ ?_
    refine re_iconst (pc := 23) (-1 : Int32) (by decide +kernel : decode cX13_orders 23 = .ok (.iconst (-1), 1)) (by decide) ?_
    cases h
    exact re_iret (fun ty hty => by cases hty; rfl) (by decide +kernel : decode cX13_orders 24 = .ok (.ireturn, 1))
  · refine re_if_ne_t (pc := 20) 25 (by decide +kernel : decode cX13_orders 20 = .ok (.ifCond .ne 5, 3)) (by decide) g19_ ?_
    refine re_iconst (pc := 25) (0 : Int32) (by decide +kernel : decode cX13_orders 25 = .ok (.iconst 0, 1)) (by decide) ?_
    refine re_istoren (pc := 26) (lv1 := [(2, .int (0 : Int32)), (1, .int x12_), (0, .ref a0)]) (by decide +kernel : decode cX13_orders 26 = .ok (.istore_n 2, 1)) rfl (by decide) rfl ?_
    refine re_iconst (pc := 27) (0 : Int32) (by decide +kernel : decode cX13_orders 27 = .ok (.iconst 0, 1)) (by decide) ?_
    refine re_istoren (pc := 28) (lv1 := [(3, .int (0 : Int32)), (2, .int (0 : Int32)), (1, .int x12_), (0, .ref a0)]) (by decide +kernel : decode cX13_orders 28 = .ok (.istore_n 3, 1)) rfl (by decide) rfl ?_
    refine re_sub [3, 2, 1, 0] (lv1 := [(0, .ref a0), (1, .int x12_), (2, .int (0 : Int32)), (3, .int (0 : Int32))]) rfl ?_
    exact eX13_orders_29 n n S13_ a0 x12_ (0 : Int32) (0 : Int32) _ _ h
theorem metX13_orders (n : Nat) (S : rvS) (a0 : Nat) (r : Int32) (S' : rvS) (h : fnX13_orders n S a0 = some (r, S')) : rv_Met yX13_orders mX13_orders 16 [.ref a0] S (some (.int r)) S' := rv_Met.of ⟨by decide +kernel, rfl, (fun z => by first | rfl | cases z), rfl⟩ (Nat.le_of_ble_eq_true rfl) rfl (eX13_orders_in n S a0 r S' h)
noncomputable def fnX13_orderAt (n : Nat) (S : rvS) (a0 : Nat) (x1 : Int32) : Option (Int32 × rvS) :=
  (rv_pI S 11 a0 0 (0 : Int32)).bind fun S1_ =>
  if x1 < 0 then (
    some ((-1 : Int32), S1_))
  else (
    (rv_gI S1_ 11 a0 43).bind fun x4_ =>
    if x4_ ≤ x1 then (
      some ((-1 : Int32), S1_))
    else (
      (rv_gR S1_ 11 a0 40).bind fun a7_ =>
      (rv_aI S1_ 0 a7_ x1).bind fun x9_ =>
      some (x9_, S1_)))
set_option maxRecDepth 20000 in
set_option maxHeartbeats 4000000 in
theorem eX13_orderAt_in (n : Nat) (S : rvS) (a0 : Nat) (x1 : Int32) (r : Int32) (S' : rvS) (h : fnX13_orderAt n S a0 x1 = some (r, S')) : rv_Ev mX13_orderAt 0 0 [(0, .ref a0), (1, .int x1)] [] S (some (.int r)) S' := by
  unfold fnX13_orderAt at h
  refine re_aloadn (pc := 0) 0 (by decide +kernel : decode cX13_orderAt 0 = .ok (.aload_n 0, 1)) rfl ?_
  refine re_iconst (pc := 1) (0 : Int32) (by decide +kernel : decode cX13_orderAt 1 = .ok (.iconst 0, 1)) (by decide) ?_
  obtain ⟨S1_, g2_, h⟩ := rv_b_e h
  refine re_pI (pc := 2) g2_ lfX13_99 rfl rfl rfl rfl (by decide +kernel : decode cX13_orderAt 2 = .ok (.putfield 99, 3)) ?_
  refine re_iloadn (pc := 5) 1 (by decide +kernel : decode cX13_orderAt 5 = .ok (.iload_n 1, 1)) rfl ?_
  rcases rv_if_e h with ⟨g3_, h⟩ | ⟨g3_, h⟩
  · refine re_if_lt_t (pc := 6) 26 (by decide +kernel : decode cX13_orderAt 6 = .ok (.ifCond .lt 20, 3)) (by decide) g3_ ?_
    refine re_iconst (pc := 26) (-1 : Int32) (by decide +kernel : decode cX13_orderAt 26 = .ok (.iconst (-1), 1)) (by decide) ?_
    cases h
    exact re_iret (fun ty hty => by cases hty; rfl) (by decide +kernel : decode cX13_orderAt 27 = .ok (.ireturn, 1))
  · refine re_if_lt_f (pc := 6) 26 (by decide +kernel : decode cX13_orderAt 6 = .ok (.ifCond .lt 20, 3)) (by decide) g3_ ?_
    refine re_iloadn (pc := 9) 1 (by decide +kernel : decode cX13_orderAt 9 = .ok (.iload_n 1, 1)) rfl ?_
    refine re_aloadn (pc := 10) 0 (by decide +kernel : decode cX13_orderAt 10 = .ok (.aload_n 0, 1)) rfl ?_
    obtain ⟨x4_, g5_, h⟩ := rv_b_e h
    refine re_gI (pc := 11) g5_ lfX13_420 rfl (by decide +kernel : decode cX13_orderAt 11 = .ok (.getfield 420, 3)) ?_
    rcases rv_if_e h with ⟨g6_, h⟩ | ⟨g6_, h⟩
    · refine re_icmp_ge_t (pc := 14) 26 (by decide +kernel : decode cX13_orderAt 14 = .ok (.if_icmp .ge 12, 3)) (by decide) g6_ ?_
      refine re_iconst (pc := 26) (-1 : Int32) (by decide +kernel : decode cX13_orderAt 26 = .ok (.iconst (-1), 1)) (by decide) ?_
      cases h
      exact re_iret (fun ty hty => by cases hty; rfl) (by decide +kernel : decode cX13_orderAt 27 = .ok (.ireturn, 1))
    · refine re_icmp_ge_f (pc := 14) 26 (by decide +kernel : decode cX13_orderAt 14 = .ok (.if_icmp .ge 12, 3)) (by decide) g6_ ?_
      refine re_aloadn (pc := 17) 0 (by decide +kernel : decode cX13_orderAt 17 = .ok (.aload_n 0, 1)) rfl ?_
      obtain ⟨a7_, g8_, h⟩ := rv_b_e h
      refine re_gR (pc := 18) g8_ lfX13_81 rfl (by decide +kernel : decode cX13_orderAt 18 = .ok (.getfield 81, 3)) ?_
      refine re_iloadn (pc := 21) 1 (by decide +kernel : decode cX13_orderAt 21 = .ok (.iload_n 1, 1)) rfl ?_
      obtain ⟨x9_, g10_, h⟩ := rv_b_e h
      refine re_aI (pc := 22) g10_ (by decide +kernel : decode cX13_orderAt 22 = .ok (.iaload, 1)) ?_
      refine re_goto (pc := 23) 27 (by decide +kernel : decode cX13_orderAt 23 = .ok (.goto 4, 3)) (by decide) ?_
      cases h
      exact re_iret (fun ty hty => by cases hty; rfl) (by decide +kernel : decode cX13_orderAt 27 = .ok (.ireturn, 1))
theorem metX13_orderAt (n : Nat) (S : rvS) (a0 : Nat) (x1 : Int32) (r : Int32) (S' : rvS) (h : fnX13_orderAt n S a0 x1 = some (r, S')) : rv_Met yX13_orderAt mX13_orderAt 0 [.ref a0, .int x1] S (some (.int r)) S' := rv_Met.of ⟨by decide +kernel, rfl, (fun z => by first | rfl | cases z), rfl⟩ (Nat.le_of_ble_eq_true rfl) rfl (eX13_orderAt_in n S a0 x1 r S' h)
noncomputable def cX13_isAs_34 (n : Nat) (S : rvS) : Nat → Nat → Int32 → Int32 → Option Int32
  | 0, _, _, _ => none
  | k + 1, a0, x1, x2 =>
    (rv_gR S 11 a0 24).bind fun a1_ =>
    (rv_aI S 0 a1_ (1 : Int32)).bind fun x3_ =>
    if x3_ ≤ x2 then (
      some (1 : Int32))
    else (
      (rv_gR S 11 a0 24).bind fun a6_ =>
      (rv_aI S 0 a6_ ((2 : Int32) + x2)).bind fun x8_ =>
      (rv_ck S 11 a0).bind fun u10_ =>
      (fnX13_ofCoin n S a0 x1 ((3 : Int32) + x2)).bind fun x13_ =>
      if x8_ = x13_ then (
        rv_lt (x2 + (1)) fun x16_ =>
        cX13_isAs_34 n S k a0 x1 x16_)
      else (
        some (0 : Int32)))
set_option maxRecDepth 20000 in
set_option maxHeartbeats 4000000 in
theorem eX13_isAs_34 (n : Nat) (S : rvS) : ∀ (k : Nat) (a0 : Nat) (x1 : Int32) (x2 : Int32) (r : Int32), cX13_isAs_34 n S k a0 x1 x2 = some r → rv_Ev mX13_isAs 1 34 [(0, .ref a0), (1, .int x1), (2, .int x2)] [] S (some (.int r)) S := by
  intro k
  induction k with
  | zero => intro a0 x1 x2 r h; exact absurd h (by simp [cX13_isAs_34])
  | succ k ih =>
    intro a0 x1 x2 r h
    unfold cX13_isAs_34 at h
    refine re_iloadn (pc := 34) 2 (by decide +kernel : decode cX13_isAs 34 = .ok (.iload_n 2, 1)) rfl ?_
    refine re_aloadn (pc := 35) 0 (by decide +kernel : decode cX13_isAs 35 = .ok (.aload_n 0, 1)) rfl ?_
    obtain ⟨a1_, g2_, h⟩ := rv_b_e h
    refine re_gR (pc := 36) g2_ lfX13_39 rfl (by decide +kernel : decode cX13_isAs 36 = .ok (.getfield 39, 3)) ?_
    refine re_iconst (pc := 39) (1 : Int32) (by decide +kernel : decode cX13_isAs 39 = .ok (.iconst 1, 1)) (by decide) ?_
    obtain ⟨x3_, g4_, h⟩ := rv_b_e h
    refine re_aI (pc := 40) g4_ (by decide +kernel : decode cX13_isAs 40 = .ok (.iaload, 1)) ?_
    rcases rv_if_e h with ⟨g5_, h⟩ | ⟨g5_, h⟩
    · refine re_icmp_ge_t (pc := 41) 71 (by decide +kernel : decode cX13_isAs 41 = .ok (.if_icmp .ge 30, 3)) (by decide) g5_ ?_
      refine re_iconst (pc := 71) (1 : Int32) (by decide +kernel : decode cX13_isAs 71 = .ok (.iconst 1, 1)) (by decide) ?_
      cases h
      exact re_iret (fun ty hty => by cases hty; rfl) (by decide +kernel : decode cX13_isAs 72 = .ok (.ireturn, 1))
    · refine re_icmp_ge_f (pc := 41) 71 (by decide +kernel : decode cX13_isAs 41 = .ok (.if_icmp .ge 30, 3)) (by decide) g5_ ?_
      refine re_aloadn (pc := 44) 0 (by decide +kernel : decode cX13_isAs 44 = .ok (.aload_n 0, 1)) rfl ?_
      obtain ⟨a6_, g7_, h⟩ := rv_b_e h
      refine re_gR (pc := 45) g7_ lfX13_39 rfl (by decide +kernel : decode cX13_isAs 45 = .ok (.getfield 39, 3)) ?_
      refine re_iconst (pc := 48) (2 : Int32) (by decide +kernel : decode cX13_isAs 48 = .ok (.iconst 2, 1)) (by decide) ?_
      refine re_iloadn (pc := 49) 2 (by decide +kernel : decode cX13_isAs 49 = .ok (.iload_n 2, 1)) rfl ?_
      refine re_iadd (pc := 50) (by decide +kernel : decode cX13_isAs 50 = .ok (.iadd, 1)) ?_
      obtain ⟨x8_, g9_, h⟩ := rv_b_e h
      refine re_aI (pc := 51) g9_ (by decide +kernel : decode cX13_isAs 51 = .ok (.iaload, 1)) ?_
      refine re_aloadn (pc := 52) 0 (by decide +kernel : decode cX13_isAs 52 = .ok (.aload_n 0, 1)) rfl ?_
      refine re_iloadn (pc := 53) 1 (by decide +kernel : decode cX13_isAs 53 = .ok (.iload_n 1, 1)) rfl ?_
      refine re_iconst (pc := 54) (3 : Int32) (by decide +kernel : decode cX13_isAs 54 = .ok (.iconst 3, 1)) (by decide) ?_
      refine re_iloadn (pc := 55) 2 (by decide +kernel : decode cX13_isAs 55 = .ok (.iload_n 2, 1)) rfl ?_
      refine re_iadd (pc := 56) (by decide +kernel : decode cX13_isAs 56 = .ok (.iadd, 1)) ?_
      obtain ⟨u10_, g11_, h⟩ := rv_b_e h
      obtain ⟨x13_, g14_, h⟩ := rv_b_e h
      have m12_ := metX13_ofCoin n S a0 x1 ((3 : Int32) + x2) _ g14_
      refine re_cV (pc := 57) [.int x1, .int ((3 : Int32) + x2)] m12_ (rv_okl.k ⟨rfl, rfl⟩) (rv_up.rf _ _) (by decide) (rv_ck_e g11_) ⟨by decide, rfl⟩ (Nat.le_of_ble_eq_true rfl) lVX13_271 rfl (by decide +kernel : decode cX13_isAs 57 = .ok (.invokevirtual 271, 3)) ?_
      rcases rv_if_e h with ⟨g15_, h⟩ | ⟨g15_, h⟩
      · refine re_icmp_eq_t (pc := 60) 65 (by decide +kernel : decode cX13_isAs 60 = .ok (.if_icmp .eq 5, 3)) (by decide) g15_ ?_
        obtain ⟨x16_, g17_, h⟩ := rv_lt_e h
        refine re_iinc (pc := 65) 2 x16_ (lv1 := [(2, .int x16_), (0, .ref a0), (1, .int x1)]) (by decide +kernel : decode cX13_isAs 65 = .ok (.iinc 2 1, 3)) rfl g17_ (by decide) rfl ?_
        refine re_goto (pc := 68) 34 (by decide +kernel : decode cX13_isAs 68 = .ok (.goto (-34), 3)) (by decide) ?_
        refine re_sub [1, 2, 0] (lv1 := [(0, .ref a0), (1, .int x1), (2, .int x16_)]) rfl ?_
        exact ih a0 x1 x16_ _ h
      · refine re_icmp_eq_f (pc := 60) 65 (by decide +kernel : decode cX13_isAs 60 = .ok (.if_icmp .eq 5, 3)) (by decide) g15_ ?_
        refine re_iconst (pc := 63) (0 : Int32) (by decide +kernel : decode cX13_isAs 63 = .ok (.iconst 0, 1)) (by decide) ?_
        cases h
        exact re_iret (fun ty hty => by cases hty; rfl) (by decide +kernel : decode cX13_isAs 64 = .ok (.ireturn, 1))
noncomputable def fnX13_isAs (n : Nat) (S : rvS) (a0 : Nat) (x1 : Int32) : Option Int32 :=
  (rv_gR S 11 a0 24).bind fun a1_ =>
  (rv_aI S 0 a1_ (0 : Int32)).bind fun x3_ =>
  (rv_ck S 11 a0).bind fun u5_ =>
  (fnX13_ofCoin n S a0 x1 (1 : Int32)).bind fun x8_ =>
  if x3_ = x8_ then (
    (rv_gR S 11 a0 24).bind fun a11_ =>
    (rv_aI S 0 a11_ (1 : Int32)).bind fun x13_ =>
    (rv_ck S 11 a0).bind fun u15_ =>
    (fnX13_ofCoin n S a0 x1 (2 : Int32)).bind fun x18_ =>
    if x13_ = x18_ then (
      cX13_isAs_34 n S n a0 x1 (0 : Int32))
    else (
      some (0 : Int32)))
  else (
    some (0 : Int32))
set_option maxRecDepth 20000 in
set_option maxHeartbeats 4000000 in
theorem eX13_isAs_in (n : Nat) (S : rvS) (a0 : Nat) (x1 : Int32) (r : Int32) (h : fnX13_isAs n S a0 x1 = some r) : rv_Ev mX13_isAs 1 0 [(0, .ref a0), (1, .int x1)] [] S (some (.int r)) S := by
  unfold fnX13_isAs at h
  refine re_aloadn (pc := 0) 0 (by decide +kernel : decode cX13_isAs 0 = .ok (.aload_n 0, 1)) rfl ?_
  obtain ⟨a1_, g2_, h⟩ := rv_b_e h
  refine re_gR (pc := 1) g2_ lfX13_39 rfl (by decide +kernel : decode cX13_isAs 1 = .ok (.getfield 39, 3)) ?_
  refine re_iconst (pc := 4) (0 : Int32) (by decide +kernel : decode cX13_isAs 4 = .ok (.iconst 0, 1)) (by decide) ?_
  obtain ⟨x3_, g4_, h⟩ := rv_b_e h
  refine re_aI (pc := 5) g4_ (by decide +kernel : decode cX13_isAs 5 = .ok (.iaload, 1)) ?_
  refine re_aloadn (pc := 6) 0 (by decide +kernel : decode cX13_isAs 6 = .ok (.aload_n 0, 1)) rfl ?_
  refine re_iloadn (pc := 7) 1 (by decide +kernel : decode cX13_isAs 7 = .ok (.iload_n 1, 1)) rfl ?_
  refine re_iconst (pc := 8) (1 : Int32) (by decide +kernel : decode cX13_isAs 8 = .ok (.iconst 1, 1)) (by decide) ?_
  obtain ⟨u5_, g6_, h⟩ := rv_b_e h
  obtain ⟨x8_, g9_, h⟩ := rv_b_e h
  have m7_ := metX13_ofCoin n S a0 x1 (1 : Int32) _ g9_
  refine re_cV (pc := 9) [.int x1, .int (1 : Int32)] m7_ (rv_okl.k ⟨rfl, rfl⟩) (rv_up.rf _ _) (by decide) (rv_ck_e g6_) ⟨by decide, rfl⟩ (Nat.le_of_ble_eq_true rfl) lVX13_271 rfl (by decide +kernel : decode cX13_isAs 9 = .ok (.invokevirtual 271, 3)) ?_
  rcases rv_if_e h with ⟨g10_, h⟩ | ⟨g10_, h⟩
  · refine re_icmp_ne_f (pc := 12) 30 (by decide +kernel : decode cX13_isAs 12 = .ok (.if_icmp .ne 18, 3)) (by decide) g10_ ?_
    refine re_aloadn (pc := 15) 0 (by decide +kernel : decode cX13_isAs 15 = .ok (.aload_n 0, 1)) rfl ?_
    obtain ⟨a11_, g12_, h⟩ := rv_b_e h
    refine re_gR (pc := 16) g12_ lfX13_39 rfl (by decide +kernel : decode cX13_isAs 16 = .ok (.getfield 39, 3)) ?_
    refine re_iconst (pc := 19) (1 : Int32) (by decide +kernel : decode cX13_isAs 19 = .ok (.iconst 1, 1)) (by decide) ?_
    obtain ⟨x13_, g14_, h⟩ := rv_b_e h
    refine re_aI (pc := 20) g14_ (by decide +kernel : decode cX13_isAs 20 = .ok (.iaload, 1)) ?_
    refine re_aloadn (pc := 21) 0 (by decide +kernel : decode cX13_isAs 21 = .ok (.aload_n 0, 1)) rfl ?_
    refine re_iloadn (pc := 22) 1 (by decide +kernel : decode cX13_isAs 22 = .ok (.iload_n 1, 1)) rfl ?_
    refine re_iconst (pc := 23) (2 : Int32) (by decide +kernel : decode cX13_isAs 23 = .ok (.iconst 2, 1)) (by decide) ?_
    obtain ⟨u15_, g16_, h⟩ := rv_b_e h
    obtain ⟨x18_, g19_, h⟩ := rv_b_e h
    have m17_ := metX13_ofCoin n S a0 x1 (2 : Int32) _ g19_
    refine re_cV (pc := 24) [.int x1, .int (2 : Int32)] m17_ (rv_okl.k ⟨rfl, rfl⟩) (rv_up.rf _ _) (by decide) (rv_ck_e g16_) ⟨by decide, rfl⟩ (Nat.le_of_ble_eq_true rfl) lVX13_271 rfl (by decide +kernel : decode cX13_isAs 24 = .ok (.invokevirtual 271, 3)) ?_
    rcases rv_if_e h with ⟨g20_, h⟩ | ⟨g20_, h⟩
    · refine re_icmp_eq_t (pc := 27) 32 (by decide +kernel : decode cX13_isAs 27 = .ok (.if_icmp .eq 5, 3)) (by decide) g20_ ?_
      refine re_iconst (pc := 32) (0 : Int32) (by decide +kernel : decode cX13_isAs 32 = .ok (.iconst 0, 1)) (by decide) ?_
      refine re_istoren (pc := 33) (lv1 := [(2, .int (0 : Int32)), (0, .ref a0), (1, .int x1)]) (by decide +kernel : decode cX13_isAs 33 = .ok (.istore_n 2, 1)) rfl (by decide) rfl ?_
      refine re_sub [1, 2, 0] (lv1 := [(0, .ref a0), (1, .int x1), (2, .int (0 : Int32))]) rfl ?_
      exact eX13_isAs_34 n S n a0 x1 (0 : Int32) _ h
    · refine re_icmp_eq_f (pc := 27) 32 (by decide +kernel : decode cX13_isAs 27 = .ok (.if_icmp .eq 5, 3)) (by decide) g20_ ?_
      refine re_iconst (pc := 30) (0 : Int32) (by decide +kernel : decode cX13_isAs 30 = .ok (.iconst 0, 1)) (by decide) ?_
      cases h
      exact re_iret (fun ty hty => by cases hty; rfl) (by decide +kernel : decode cX13_isAs 31 = .ok (.ireturn, 1))
  · refine re_icmp_ne_t (pc := 12) 30 (by decide +kernel : decode cX13_isAs 12 = .ok (.if_icmp .ne 18, 3)) (by decide) g10_ ?_
    refine re_iconst (pc := 30) (0 : Int32) (by decide +kernel : decode cX13_isAs 30 = .ok (.iconst 0, 1)) (by decide) ?_
    cases h
    exact re_iret (fun ty hty => by cases hty; rfl) (by decide +kernel : decode cX13_isAs 31 = .ok (.ireturn, 1))
theorem metX13_isAs (n : Nat) (S : rvS) (a0 : Nat) (x1 : Int32) (r : Int32) (h : fnX13_isAs n S a0 x1 = some r) : rv_Met yX13_isAs mX13_isAs 1 [.ref a0, .int x1] S (some (.int r)) S := rv_Met.of ⟨by decide +kernel, rfl, (fun z => by first | rfl | cases z), rfl⟩ (Nat.le_of_ble_eq_true rfl) rfl (eX13_isAs_in n S a0 x1 r h)
noncomputable def cX13_tryWays_33 (n : Nat) (G0 : rvS → Nat → Int32 → Int32 → Int32 → Int32 → Option rvS) : Nat → rvS → Nat → Int32 → Int32 → Option rvS
  | 0, _, _, _, _ => none
  | k + 1, S, a0, x3, x5 =>
    if x3 ≤ x5 then (
      some S)
    else (
      (rv_gR S 11 a0 46).bind fun a2_ =>
      (rv_aI S 0 a2_ x5).bind fun x4_ =>
      (rv_gR S 11 a0 45).bind fun a6_ =>
      (rv_aI S 0 a6_ x5).bind fun x8_ =>
      (rv_uI S a2_ x5 (x4_ ||| ((1 : Int32) <<< (x8_ &&& 31)))).bind fun S10_ =>
      rv_lt (x5 + (1)) fun x12_ =>
      cX13_tryWays_33 n G0 k S10_ a0 x3 x12_)
set_option maxRecDepth 20000 in
set_option maxHeartbeats 4000000 in
theorem eX13_tryWays_33 (n : Nat) (G0 : rvS → Nat → Int32 → Int32 → Int32 → Int32 → Option rvS) (d : Nat) (hG0 : ∀ (S : rvS) (z0 : Nat) (z1 : Int32) (z2 : Int32) (z3 : Int32) (z4 : Int32) (S' : rvS), G0 S z0 z1 z2 z3 z4 = some S' → rv_Met yX13_tryWays mX13_tryWays (3 + d) [.ref z0, .int z1, .int z2, .int z3, .int z4] S none S') : ∀ (k : Nat) (S : rvS) (a0 : Nat) (x3 : Int32) (x5 : Int32) (S' : rvS), cX13_tryWays_33 n G0 k S a0 x3 x5 = some S' → rv_Ev mX13_tryWays (3 + d + 1) 33 [(0, .ref a0), (3, .int x3), (5, .int x5)] [] S none S' := by
  intro k
  induction k with
  | zero => intro S a0 x3 x5 S' h; exact absurd h (by simp [cX13_tryWays_33])
  | succ k ih =>
    intro S a0 x3 x5 S' h
    unfold cX13_tryWays_33 at h
    refine re_iload (pc := 33) 2 (by decide +kernel : decode cX13_tryWays 33 = .ok (.iload 5, 2)) rfl ?_
    refine re_iloadn (pc := 35) 1 (by decide +kernel : decode cX13_tryWays 35 = .ok (.iload_n 3, 1)) rfl ?_
    rcases rv_if_e h with ⟨g1_, h⟩ | ⟨g1_, h⟩
    · refine re_icmp_ge_t (pc := 36) 64 (by decide +kernel : decode cX13_tryWays 36 = .ok (.if_icmp .ge 28, 3)) (by decide) g1_ ?_
      cases h
      exact re_vret (by decide +kernel : decode cX13_tryWays 64 = .ok (.return_, 1))
    · refine re_icmp_ge_f (pc := 36) 64 (by decide +kernel : decode cX13_tryWays 36 = .ok (.if_icmp .ge 28, 3)) (by decide) g1_ ?_
      refine re_aloadn (pc := 39) 0 (by decide +kernel : decode cX13_tryWays 39 = .ok (.aload_n 0, 1)) rfl ?_
      obtain ⟨a2_, g3_, h⟩ := rv_b_e h
      refine re_gR (pc := 40) g3_ lfX13_90 rfl (by decide +kernel : decode cX13_tryWays 40 = .ok (.getfield 90, 3)) ?_
      refine re_iload (pc := 43) 2 (by decide +kernel : decode cX13_tryWays 43 = .ok (.iload 5, 2)) rfl ?_
      refine re_dup2 (pc := 45) (by decide +kernel : decode cX13_tryWays 45 = .ok (.dup2, 1)) rfl rfl ?_
      obtain ⟨x4_, g5_, h⟩ := rv_b_e h
      refine re_aI (pc := 46) g5_ (by decide +kernel : decode cX13_tryWays 46 = .ok (.iaload, 1)) ?_
      refine re_iconst (pc := 47) (1 : Int32) (by decide +kernel : decode cX13_tryWays 47 = .ok (.iconst 1, 1)) (by decide) ?_
      refine re_aloadn (pc := 48) 0 (by decide +kernel : decode cX13_tryWays 48 = .ok (.aload_n 0, 1)) rfl ?_
      obtain ⟨a6_, g7_, h⟩ := rv_b_e h
      refine re_gR (pc := 49) g7_ lfX13_87 rfl (by decide +kernel : decode cX13_tryWays 49 = .ok (.getfield 87, 3)) ?_
      refine re_iload (pc := 52) 2 (by decide +kernel : decode cX13_tryWays 52 = .ok (.iload 5, 2)) rfl ?_
      obtain ⟨x8_, g9_, h⟩ := rv_b_e h
      refine re_aI (pc := 54) g9_ (by decide +kernel : decode cX13_tryWays 54 = .ok (.iaload, 1)) ?_
      refine re_ishl (pc := 55) (by decide +kernel : decode cX13_tryWays 55 = .ok (.ishl, 1)) ?_
      refine re_ior (pc := 56) (by decide +kernel : decode cX13_tryWays 56 = .ok (.ior, 1)) ?_
      obtain ⟨S10_, g11_, h⟩ := rv_b_e h
      refine re_uI (pc := 57) g11_ (by decide +kernel : decode cX13_tryWays 57 = .ok (.iastore, 1)) ?_
      obtain ⟨x12_, g13_, h⟩ := rv_lt_e h
      refine re_iinc (pc := 58) 2 x12_ (lv1 := [(5, .int x12_), (0, .ref a0), (3, .int x3)]) (by decide +kernel : decode cX13_tryWays 58 = .ok (.iinc 5 1, 3)) rfl g13_ (by decide) rfl ?_
      refine re_goto (pc := 61) 33 (by decide +kernel : decode cX13_tryWays 61 = .ok (.goto (-28), 3)) (by decide) ?_
      refine re_sub [1, 2, 0] (lv1 := [(0, .ref a0), (3, .int x3), (5, .int x12_)]) rfl ?_
      exact ih S10_ a0 x3 x12_ _ h
noncomputable def cX13_tryWays_68 (n : Nat) (G0 : rvS → Nat → Int32 → Int32 → Int32 → Int32 → Option rvS) : Nat → rvS → Nat → Int32 → Int32 → Int32 → Int32 → Int32 → Option rvS
  | 0, _, _, _, _, _, _, _ => none
  | k + 1, S, a0, x1, x2, x3, x4, x5 =>
    (rv_ck S 11 a0).bind fun u1_ =>
    (fnX13_whos n S a0).bind fun x4_ =>
    if x4_ ≤ x5 then (
      some S)
    else (
      (rv_ck S 11 a0).bind fun u7_ =>
      (fnX13_uncode n S a0 x2).bind fun S10_ =>
      (rv_ck S10_ 11 a0).bind fun u13_ =>
      (fnX13_whyNot n S10_ a0 x5).bind fun x16_ =>
      if x16_ = 0 then (
        (rv_ck S10_ 11 a0).bind fun u19_ =>
        (fnX13_pass n S10_ a0 x5).bind fun S22_ =>
        (rv_gR S22_ 11 a0 45).bind fun a25_ =>
        (rv_uI S22_ a25_ x4 x5).bind fun S27_ =>
        (rv_ck S27_ 11 a0).bind fun u29_ =>
        (fnX13_code n S27_ a0).bind fun x32_ =>
        (rv_ck S27_ 11 a0).bind fun u34_ =>
        (G0 S27_ a0 x1 x32_ x3 (x4 + (1 : Int32))).bind fun S37_ =>
        rv_lt (x5 + (1)) fun x40_ =>
        cX13_tryWays_68 n G0 k S37_ a0 x1 x2 x3 x4 x40_)
      else (
        rv_lt (x5 + (1)) fun x42_ =>
        cX13_tryWays_68 n G0 k S10_ a0 x1 x2 x3 x4 x42_))
set_option maxRecDepth 20000 in
set_option maxHeartbeats 4000000 in
theorem eX13_tryWays_68 (n : Nat) (G0 : rvS → Nat → Int32 → Int32 → Int32 → Int32 → Option rvS) (d : Nat) (hG0 : ∀ (S : rvS) (z0 : Nat) (z1 : Int32) (z2 : Int32) (z3 : Int32) (z4 : Int32) (S' : rvS), G0 S z0 z1 z2 z3 z4 = some S' → rv_Met yX13_tryWays mX13_tryWays (3 + d) [.ref z0, .int z1, .int z2, .int z3, .int z4] S none S') : ∀ (k : Nat) (S : rvS) (a0 : Nat) (x1 : Int32) (x2 : Int32) (x3 : Int32) (x4 : Int32) (x5 : Int32) (S' : rvS), cX13_tryWays_68 n G0 k S a0 x1 x2 x3 x4 x5 = some S' → rv_Ev mX13_tryWays (3 + d + 1) 68 [(0, .ref a0), (1, .int x1), (2, .int x2), (3, .int x3), (4, .int x4), (5, .int x5)] [] S none S' := by
  intro k
  induction k with
  | zero => intro S a0 x1 x2 x3 x4 x5 S' h; exact absurd h (by simp [cX13_tryWays_68])
  | succ k ih =>
    intro S a0 x1 x2 x3 x4 x5 S' h
    unfold cX13_tryWays_68 at h
    refine re_iload (pc := 68) 5 (by decide +kernel : decode cX13_tryWays 68 = .ok (.iload 5, 2)) rfl ?_
    refine re_aloadn (pc := 70) 0 (by decide +kernel : decode cX13_tryWays 70 = .ok (.aload_n 0, 1)) rfl ?_
    obtain ⟨u1_, g2_, h⟩ := rv_b_e h
    obtain ⟨x4_, g5_, h⟩ := rv_b_e h
    have m3_ := metX13_whos n S a0 _ g5_
    refine re_cV (pc := 71) [] m3_ (rv_okl.k ⟨rfl, rfl⟩) (rv_up.rf _ _) (by omega) (rv_ck_e g2_) ⟨by decide, rfl⟩ (Nat.le_of_ble_eq_true rfl) lVX13_255 rfl (by decide +kernel : decode cX13_tryWays 71 = .ok (.invokevirtual 255, 3)) ?_
    rcases rv_if_e h with ⟨g6_, h⟩ | ⟨g6_, h⟩
    · refine re_icmp_ge_t (pc := 74) 129 (by decide +kernel : decode cX13_tryWays 74 = .ok (.if_icmp .ge 55, 3)) (by decide) g6_ ?_
      cases h
      exact re_vret (by decide +kernel : decode cX13_tryWays 129 = .ok (.return_, 1))
    · refine re_icmp_ge_f (pc := 74) 129 (by decide +kernel : decode cX13_tryWays 74 = .ok (.if_icmp .ge 55, 3)) (by decide) g6_ ?_
      refine re_aloadn (pc := 77) 0 (by decide +kernel : decode cX13_tryWays 77 = .ok (.aload_n 0, 1)) rfl ?_
      refine re_iloadn (pc := 78) 2 (by decide +kernel : decode cX13_tryWays 78 = .ok (.iload_n 2, 1)) rfl ?_
      obtain ⟨u7_, g8_, h⟩ := rv_b_e h
      obtain ⟨S10_, g11_, h⟩ := rv_b_e h
      have m9_ := metX13_uncode n S a0 x2 _ g11_
      have z12_ : rv_same S S10_ := m9_.sh rfl
      refine re_cV (pc := 79) [.int x2] m9_ (rv_okl.k z12_) (rv_up.sh z12_) (by omega) (rv_ck_e g8_) ⟨by decide, rfl⟩ (Nat.le_of_ble_eq_true rfl) lVX13_372 rfl (by decide +kernel : decode cX13_tryWays 79 = .ok (.invokevirtual 372, 3)) ?_
      refine re_aloadn (pc := 82) 0 (by decide +kernel : decode cX13_tryWays 82 = .ok (.aload_n 0, 1)) rfl ?_
      refine re_iload (pc := 83) 5 (by decide +kernel : decode cX13_tryWays 83 = .ok (.iload 5, 2)) rfl ?_
      obtain ⟨u13_, g14_, h⟩ := rv_b_e h
      obtain ⟨x16_, g17_, h⟩ := rv_b_e h
      have m15_ := metX13_whyNot n S10_ a0 x5 _ g17_
      refine re_cV (pc := 85) [.int x5] m15_ (rv_okl.k ⟨rfl, rfl⟩) (rv_up.rf _ _) (by omega) (rv_ck_e g14_) ⟨by decide, rfl⟩ (Nat.le_of_ble_eq_true rfl) lVX13_304 rfl (by decide +kernel : decode cX13_tryWays 85 = .ok (.invokevirtual 304, 3)) ?_
      rcases rv_if_e h with ⟨g18_, h⟩ | ⟨g18_, h⟩
      · refine re_if_eq_t (pc := 88) 94 (by decide +kernel : decode cX13_tryWays 88 = .ok (.ifCond .eq 6, 3)) (by decide) g18_ ?_
        refine re_aloadn (pc := 94) 0 (by decide +kernel : decode cX13_tryWays 94 = .ok (.aload_n 0, 1)) rfl ?_
        refine re_iload (pc := 95) 5 (by decide +kernel : decode cX13_tryWays 95 = .ok (.iload 5, 2)) rfl ?_
        obtain ⟨u19_, g20_, h⟩ := rv_b_e h
        obtain ⟨S22_, g23_, h⟩ := rv_b_e h
        have m21_ := metX13_pass n S10_ a0 x5 _ g23_
        have z24_ : rv_same S10_ S22_ := m21_.sh rfl
        refine re_cV (pc := 97) [.int x5] m21_ (rv_okl.k z24_) (rv_up.sh z24_) (by omega) (rv_ck_e g20_) ⟨by decide, rfl⟩ (Nat.le_of_ble_eq_true rfl) lVX13_301 rfl (by decide +kernel : decode cX13_tryWays 97 = .ok (.invokevirtual 301, 3)) ?_
        refine re_aloadn (pc := 100) 0 (by decide +kernel : decode cX13_tryWays 100 = .ok (.aload_n 0, 1)) rfl ?_
        obtain ⟨a25_, g26_, h⟩ := rv_b_e h
        refine re_gR (pc := 101) g26_ lfX13_87 rfl (by decide +kernel : decode cX13_tryWays 101 = .ok (.getfield 87, 3)) ?_
        refine re_iload (pc := 104) 4 (by decide +kernel : decode cX13_tryWays 104 = .ok (.iload 4, 2)) rfl ?_
        refine re_iload (pc := 106) 5 (by decide +kernel : decode cX13_tryWays 106 = .ok (.iload 5, 2)) rfl ?_
        obtain ⟨S27_, g28_, h⟩ := rv_b_e h
        refine re_uI (pc := 108) g28_ (by decide +kernel : decode cX13_tryWays 108 = .ok (.iastore, 1)) ?_
        refine re_aloadn (pc := 109) 0 (by decide +kernel : decode cX13_tryWays 109 = .ok (.aload_n 0, 1)) rfl ?_
        refine re_iloadn (pc := 110) 1 (by decide +kernel : decode cX13_tryWays 110 = .ok (.iload_n 1, 1)) rfl ?_
        refine re_aloadn (pc := 111) 0 (by decide +kernel : decode cX13_tryWays 111 = .ok (.aload_n 0, 1)) rfl ?_
        obtain ⟨u29_, g30_, h⟩ := rv_b_e h
        obtain ⟨x32_, g33_, h⟩ := rv_b_e h
        have m31_ := metX13_code n S27_ a0 _ g33_
        refine re_cV (pc := 112) [] m31_ (rv_okl.k ⟨rfl, rfl⟩) (rv_up.rf _ _) (by omega) (rv_ck_e g30_) ⟨by decide, rfl⟩ (Nat.le_of_ble_eq_true rfl) lVX13_366 rfl (by decide +kernel : decode cX13_tryWays 112 = .ok (.invokevirtual 366, 3)) ?_
        refine re_iloadn (pc := 115) 3 (by decide +kernel : decode cX13_tryWays 115 = .ok (.iload_n 3, 1)) rfl ?_
        refine re_iload (pc := 116) 4 (by decide +kernel : decode cX13_tryWays 116 = .ok (.iload 4, 2)) rfl ?_
        refine re_iconst (pc := 118) (1 : Int32) (by decide +kernel : decode cX13_tryWays 118 = .ok (.iconst 1, 1)) (by decide) ?_
        refine re_iadd (pc := 119) (by decide +kernel : decode cX13_tryWays 119 = .ok (.iadd, 1)) ?_
        obtain ⟨u34_, g35_, h⟩ := rv_b_e h
        obtain ⟨S37_, g38_, h⟩ := rv_b_e h
        have m36_ := hG0 S27_ a0 x1 x32_ x3 (x4 + (1 : Int32)) _ g38_
        have z39_ : rv_same S27_ S37_ := m36_.sh rfl
        refine re_cV (pc := 120) [.int x1, .int x32_, .int x3, .int (x4 + (1 : Int32))] m36_ (rv_okl.k z39_) (rv_up.sh z39_) (by omega) (rv_ck_e g35_) ⟨by decide, rfl⟩ (Nat.le_of_ble_eq_true rfl) lVX13_429 rfl (by decide +kernel : decode cX13_tryWays 120 = .ok (.invokevirtual 429, 3)) ?_
        obtain ⟨x40_, g41_, h⟩ := rv_lt_e h
        refine re_iinc (pc := 123) 5 x40_ (lv1 := [(5, .int x40_), (0, .ref a0), (1, .int x1), (2, .int x2), (3, .int x3), (4, .int x4)]) (by decide +kernel : decode cX13_tryWays 123 = .ok (.iinc 5 1, 3)) rfl g41_ (by decide) rfl ?_
        refine re_goto (pc := 126) 68 (by decide +kernel : decode cX13_tryWays 126 = .ok (.goto (-58), 3)) (by decide) ?_
        refine re_sub [1, 2, 3, 4, 5, 0] (lv1 := [(0, .ref a0), (1, .int x1), (2, .int x2), (3, .int x3), (4, .int x4), (5, .int x40_)]) rfl ?_
        exact ih S37_ a0 x1 x2 x3 x4 x40_ _ h
      · refine re_if_eq_f (pc := 88) 94 (by decide +kernel : decode cX13_tryWays 88 = .ok (.ifCond .eq 6, 3)) (by decide) g18_ ?_
        refine re_goto (pc := 91) 123 (by decide +kernel : decode cX13_tryWays 91 = .ok (.goto 32, 3)) (by decide) ?_
        obtain ⟨x42_, g43_, h⟩ := rv_lt_e h
        refine re_iinc (pc := 123) 5 x42_ (lv1 := [(5, .int x42_), (0, .ref a0), (1, .int x1), (2, .int x2), (3, .int x3), (4, .int x4)]) (by decide +kernel : decode cX13_tryWays 123 = .ok (.iinc 5 1, 3)) rfl g43_ (by decide) rfl ?_
        refine re_goto (pc := 126) 68 (by decide +kernel : decode cX13_tryWays 126 = .ok (.goto (-58), 3)) (by decide) ?_
        refine re_sub [1, 2, 3, 4, 5, 0] (lv1 := [(0, .ref a0), (1, .int x1), (2, .int x2), (3, .int x3), (4, .int x4), (5, .int x42_)]) rfl ?_
        exact ih S10_ a0 x1 x2 x3 x4 x42_ _ h
noncomputable def fbX13_tryWays (n : Nat) (G0 : rvS → Nat → Int32 → Int32 → Int32 → Int32 → Option rvS) (S : rvS) (a0 : Nat) (x1 : Int32) (x2 : Int32) (x3 : Int32) (x4 : Int32) : Option rvS :=
  if x4 = x3 then (
    (rv_ck S 11 a0).bind fun u2_ =>
    (fnX13_uncode n S a0 x2).bind fun S5_ =>
    (rv_ck S5_ 11 a0).bind fun u8_ =>
    (fnX13_isAs n S5_ a0 x1).bind fun x11_ =>
    if x11_ = 0 then (
      some S5_)
    else (
      (rv_gI S5_ 11 a0 48).bind fun x14_ =>
      (rv_pI S5_ 11 a0 48 (x14_ + (1 : Int32))).bind fun S16_ =>
      cX13_tryWays_33 n G0 n S16_ a0 x3 (0 : Int32)))
  else (
    cX13_tryWays_68 n G0 n S a0 x1 x2 x3 x4 (0 : Int32))
set_option maxRecDepth 20000 in
set_option maxHeartbeats 4000000 in
theorem eX13_tryWays_in (n : Nat) (G0 : rvS → Nat → Int32 → Int32 → Int32 → Int32 → Option rvS) (d : Nat) (hG0 : ∀ (S : rvS) (z0 : Nat) (z1 : Int32) (z2 : Int32) (z3 : Int32) (z4 : Int32) (S' : rvS), G0 S z0 z1 z2 z3 z4 = some S' → rv_Met yX13_tryWays mX13_tryWays (3 + d) [.ref z0, .int z1, .int z2, .int z3, .int z4] S none S') (S : rvS) (a0 : Nat) (x1 : Int32) (x2 : Int32) (x3 : Int32) (x4 : Int32) (S' : rvS) (h : fbX13_tryWays n G0 S a0 x1 x2 x3 x4 = some S') : rv_Ev mX13_tryWays (3 + d + 1) 0 [(0, .ref a0), (1, .int x1), (2, .int x2), (3, .int x3), (4, .int x4)] [] S none S' := by
  unfold fbX13_tryWays at h
  refine re_iload (pc := 0) 4 (by decide +kernel : decode cX13_tryWays 0 = .ok (.iload 4, 2)) rfl ?_
  refine re_iloadn (pc := 2) 3 (by decide +kernel : decode cX13_tryWays 2 = .ok (.iload_n 3, 1)) rfl ?_
  rcases rv_if_e h with ⟨g1_, h⟩ | ⟨g1_, h⟩
  · refine re_icmp_ne_f (pc := 3) 65 (by decide +kernel : decode cX13_tryWays 3 = .ok (.if_icmp .ne 62, 3)) (by decide) g1_ ?_
    refine re_aloadn (pc := 6) 0 (by decide +kernel : decode cX13_tryWays 6 = .ok (.aload_n 0, 1)) rfl ?_
    refine re_iloadn (pc := 7) 2 (by decide +kernel : decode cX13_tryWays 7 = .ok (.iload_n 2, 1)) rfl ?_
    obtain ⟨u2_, g3_, h⟩ := rv_b_e h
    obtain ⟨S5_, g6_, h⟩ := rv_b_e h
    have m4_ := metX13_uncode n S a0 x2 _ g6_
    have z7_ : rv_same S S5_ := m4_.sh rfl
    refine re_cV (pc := 8) [.int x2] m4_ (rv_okl.k z7_) (rv_up.sh z7_) (by omega) (rv_ck_e g3_) ⟨by decide, rfl⟩ (Nat.le_of_ble_eq_true rfl) lVX13_372 rfl (by decide +kernel : decode cX13_tryWays 8 = .ok (.invokevirtual 372, 3)) ?_
    refine re_aloadn (pc := 11) 0 (by decide +kernel : decode cX13_tryWays 11 = .ok (.aload_n 0, 1)) rfl ?_
    refine re_iloadn (pc := 12) 1 (by decide +kernel : decode cX13_tryWays 12 = .ok (.iload_n 1, 1)) rfl ?_
    obtain ⟨u8_, g9_, h⟩ := rv_b_e h
    obtain ⟨x11_, g12_, h⟩ := rv_b_e h
    have m10_ := metX13_isAs n S5_ a0 x1 _ g12_
    refine re_cV (pc := 13) [.int x1] m10_ (rv_okl.k ⟨rfl, rfl⟩) (rv_up.rf _ _) (by omega) (rv_ck_e g9_) ⟨by decide, rfl⟩ (Nat.le_of_ble_eq_true rfl) lVX13_423 rfl (by decide +kernel : decode cX13_tryWays 13 = .ok (.invokevirtual 423, 3)) ?_
    rcases rv_if_e h with ⟨g13_, h⟩ | ⟨g13_, h⟩
    · refine re_if_ne_f (pc := 16) 20 (by decide +kernel : decode cX13_tryWays 16 = .ok (.ifCond .ne 4, 3)) (by decide) g13_ ?_
      cases h
      exact re_vret (by decide +kernel : decode cX13_tryWays 19 = .ok (.return_, 1))
    · refine re_if_ne_t (pc := 16) 20 (by decide +kernel : decode cX13_tryWays 16 = .ok (.ifCond .ne 4, 3)) (by decide) g13_ ?_
      refine re_aloadn (pc := 20) 0 (by decide +kernel : decode cX13_tryWays 20 = .ok (.aload_n 0, 1)) rfl ?_
      refine re_dup (pc := 21) (by decide +kernel : decode cX13_tryWays 21 = .ok (.dup, 1)) rfl ?_
      obtain ⟨x14_, g15_, h⟩ := rv_b_e h
      refine re_gI (pc := 22) g15_ lfX13_426 rfl (by decide +kernel : decode cX13_tryWays 22 = .ok (.getfield 426, 3)) ?_
      refine re_iconst (pc := 25) (1 : Int32) (by decide +kernel : decode cX13_tryWays 25 = .ok (.iconst 1, 1)) (by decide) ?_
      refine re_iadd (pc := 26) (by decide +kernel : decode cX13_tryWays 26 = .ok (.iadd, 1)) ?_
      obtain ⟨S16_, g17_, h⟩ := rv_b_e h
      refine re_pI (pc := 27) g17_ lfX13_426 rfl rfl rfl rfl (by decide +kernel : decode cX13_tryWays 27 = .ok (.putfield 426, 3)) ?_
      refine re_iconst (pc := 30) (0 : Int32) (by decide +kernel : decode cX13_tryWays 30 = .ok (.iconst 0, 1)) (by decide) ?_
      refine re_istore (pc := 31) (lv1 := [(5, .int (0 : Int32)), (0, .ref a0), (1, .int x1), (2, .int x2), (3, .int x3), (4, .int x4)]) (by decide +kernel : decode cX13_tryWays 31 = .ok (.istore 5, 2)) (by decide) rfl ?_
      refine re_sub [1, 4, 0] (lv1 := [(0, .ref a0), (3, .int x3), (5, .int (0 : Int32))]) rfl ?_
      exact eX13_tryWays_33 n G0 d hG0 n S16_ a0 x3 (0 : Int32) _ h
  · refine re_icmp_ne_t (pc := 3) 65 (by decide +kernel : decode cX13_tryWays 3 = .ok (.if_icmp .ne 62, 3)) (by decide) g1_ ?_
    refine re_iconst (pc := 65) (0 : Int32) (by decide +kernel : decode cX13_tryWays 65 = .ok (.iconst 0, 1)) (by decide) ?_
    refine re_istore (pc := 66) (lv1 := [(5, .int (0 : Int32)), (0, .ref a0), (1, .int x1), (2, .int x2), (3, .int x3), (4, .int x4)]) (by decide +kernel : decode cX13_tryWays 66 = .ok (.istore 5, 2)) (by decide) rfl ?_
    refine re_sub [1, 2, 3, 4, 5, 0] (lv1 := [(0, .ref a0), (1, .int x1), (2, .int x2), (3, .int x3), (4, .int x4), (5, .int (0 : Int32))]) rfl ?_
    exact eX13_tryWays_68 n G0 d hG0 n S a0 x1 x2 x3 x4 (0 : Int32) _ h
noncomputable def fGX13_tryWays (n : Nat) : Nat → (rvS → Nat → Int32 → Int32 → Int32 → Int32 → Option rvS)
  | 0 => (fun _ _ _ _ _ _ => none)
  | d + 1 => (fbX13_tryWays n ((fGX13_tryWays n d)))
theorem fGX13_tryWays_ok (n : Nat) : ∀ d : Nat, (∀ (S : rvS) (z0 : Nat) (z1 : Int32) (z2 : Int32) (z3 : Int32) (z4 : Int32) (S' : rvS), ((fGX13_tryWays n d)) S z0 z1 z2 z3 z4 = some S' → rv_Met yX13_tryWays mX13_tryWays (3 + d) [.ref z0, .int z1, .int z2, .int z3, .int z4] S none S') := by
  intro d
  induction d with
  | zero => exact (by intros; rename_i h; exact absurd h (by simp [fGX13_tryWays]))
  | succ d ih =>
    have i0 := ih
    exact (fun S z0 z1 z2 z3 z4 S' h => rv_Met.of ⟨by decide +kernel, rfl, (fun z => by first | rfl | cases z), rfl⟩ (Nat.le_of_ble_eq_true rfl) rfl (eX13_tryWays_in n ((fGX13_tryWays n d)) d i0 S z0 z1 z2 z3 z4 S' h))
noncomputable def fnX13_tryWays (n d : Nat) : rvS → Nat → Int32 → Int32 → Int32 → Int32 → Option rvS := (fGX13_tryWays n d)
theorem metX13_tryWays (n d : Nat) (S : rvS) (z0 : Nat) (z1 : Int32) (z2 : Int32) (z3 : Int32) (z4 : Int32) (S' : rvS) (h : fnX13_tryWays n d S z0 z1 z2 z3 z4 = some S') : rv_Met yX13_tryWays mX13_tryWays (3 + d) [.ref z0, .int z1, .int z2, .int z3, .int z4] S none S' := (fGX13_tryWays_ok n d) S z0 z1 z2 z3 z4 S' h
noncomputable def cX13_ways_69 (n : Nat) (S : rvS) (a0 : Nat) (x1 : Int32) (x2 : Int32) (x3 : Int32) : Option (Int32 × rvS) :=
  (rv_gR S 11 a0 24).bind fun a1_ =>
  (rv_uI S a1_ (0 : Int32) x2).bind fun S3_ =>
  (rv_gR S3_ 11 a0 24).bind fun a5_ =>
  (rv_uI S3_ a5_ (1 : Int32) (0 : Int32)).bind fun S7_ =>
  (rv_ck S7_ 11 a0).bind fun u9_ =>
  (fnX13_code n S7_ a0).bind fun x12_ =>
  (rv_ck S7_ 11 a0).bind fun u14_ =>
  (fnX13_tryWays n 8 S7_ a0 x1 x12_ x3 (0 : Int32)).bind fun S17_ =>
  (rv_gI S17_ 11 a0 48).bind fun x20_ =>
  some (x20_, S17_)
set_option maxRecDepth 20000 in
set_option maxHeartbeats 4000000 in
theorem eX13_ways_69 (n : Nat) (S : rvS) (a0 : Nat) (x1 : Int32) (x2 : Int32) (x3 : Int32) (r : Int32) (S' : rvS) (h : cX13_ways_69 n S a0 x1 x2 x3 = some (r, S')) : rv_Ev mX13_ways 12 69 [(0, .ref a0), (1, .int x1), (2, .int x2), (3, .int x3)] [] S (some (.int r)) S' := by
  unfold cX13_ways_69 at h
  refine re_aloadn (pc := 69) 0 (by decide +kernel : decode cX13_ways 69 = .ok (.aload_n 0, 1)) rfl ?_
  obtain ⟨a1_, g2_, h⟩ := rv_b_e h
  refine re_gR (pc := 70) g2_ lfX13_39 rfl (by decide +kernel : decode cX13_ways 70 = .ok (.getfield 39, 3)) ?_
  refine re_iconst (pc := 73) (0 : Int32) (by decide +kernel : decode cX13_ways 73 = .ok (.iconst 0, 1)) (by decide) ?_
  refine re_iloadn (pc := 74) 2 (by decide +kernel : decode cX13_ways 74 = .ok (.iload_n 2, 1)) rfl ?_
  obtain ⟨S3_, g4_, h⟩ := rv_b_e h
  refine re_uI (pc := 75) g4_ (by decide +kernel : decode cX13_ways 75 = .ok (.iastore, 1)) ?_
  refine re_aloadn (pc := 76) 0 (by decide +kernel : decode cX13_ways 76 = .ok (.aload_n 0, 1)) rfl ?_
  obtain ⟨a5_, g6_, h⟩ := rv_b_e h
  refine re_gR (pc := 77) g6_ lfX13_39 rfl (by decide +kernel : decode cX13_ways 77 = .ok (.getfield 39, 3)) ?_
  refine re_iconst (pc := 80) (1 : Int32) (by decide +kernel : decode cX13_ways 80 = .ok (.iconst 1, 1)) (by decide) ?_
  refine re_iconst (pc := 81) (0 : Int32) (by decide +kernel : decode cX13_ways 81 = .ok (.iconst 0, 1)) (by decide) ?_
  obtain ⟨S7_, g8_, h⟩ := rv_b_e h
  refine re_uI (pc := 82) g8_ (by decide +kernel : decode cX13_ways 82 = .ok (.iastore, 1)) ?_
  refine re_aloadn (pc := 83) 0 (by decide +kernel : decode cX13_ways 83 = .ok (.aload_n 0, 1)) rfl ?_
  refine re_iloadn (pc := 84) 1 (by decide +kernel : decode cX13_ways 84 = .ok (.iload_n 1, 1)) rfl ?_
  refine re_aloadn (pc := 85) 0 (by decide +kernel : decode cX13_ways 85 = .ok (.aload_n 0, 1)) rfl ?_
  obtain ⟨u9_, g10_, h⟩ := rv_b_e h
  obtain ⟨x12_, g13_, h⟩ := rv_b_e h
  have m11_ := metX13_code n S7_ a0 _ g13_
  refine re_cV (pc := 86) [] m11_ (rv_okl.k ⟨rfl, rfl⟩) (rv_up.rf _ _) (by decide) (rv_ck_e g10_) ⟨by decide, rfl⟩ (Nat.le_of_ble_eq_true rfl) lVX13_366 rfl (by decide +kernel : decode cX13_ways 86 = .ok (.invokevirtual 366, 3)) ?_
  refine re_iloadn (pc := 89) 3 (by decide +kernel : decode cX13_ways 89 = .ok (.iload_n 3, 1)) rfl ?_
  refine re_iconst (pc := 90) (0 : Int32) (by decide +kernel : decode cX13_ways 90 = .ok (.iconst 0, 1)) (by decide) ?_
  obtain ⟨u14_, g15_, h⟩ := rv_b_e h
  obtain ⟨S17_, g18_, h⟩ := rv_b_e h
  have m16_ := metX13_tryWays n 8 S7_ a0 x1 x12_ x3 (0 : Int32) _ g18_
  have z19_ : rv_same S7_ S17_ := m16_.sh rfl
  refine re_cV (pc := 91) [.int x1, .int x12_, .int x3, .int (0 : Int32)] m16_ (rv_okl.k z19_) (rv_up.sh z19_) (by decide) (rv_ck_e g15_) ⟨by decide, rfl⟩ (Nat.le_of_ble_eq_true rfl) lVX13_429 rfl (by decide +kernel : decode cX13_ways 91 = .ok (.invokevirtual 429, 3)) ?_
  refine re_aloadn (pc := 94) 0 (by decide +kernel : decode cX13_ways 94 = .ok (.aload_n 0, 1)) rfl ?_
  obtain ⟨x20_, g21_, h⟩ := rv_b_e h
  refine re_gI (pc := 95) g21_ lfX13_426 rfl (by decide +kernel : decode cX13_ways 95 = .ok (.getfield 426, 3)) ?_
  cases h
  exact re_iret (fun ty hty => by cases hty; rfl) (by decide +kernel : decode cX13_ways 98 = .ok (.ireturn, 1))
noncomputable def cX13_ways_49 (n : Nat) : Nat → rvS → Nat → Int32 → Int32 → Int32 → Int32 → Option (Int32 × rvS)
  | 0, _, _, _, _, _, _ => none
  | k + 1, S, a0, x1, x2, x3, x4 =>
    if (5 : Int32) ≤ x4 then (
      cX13_ways_69 n S a0 x1 x2 x3)
    else (
      (rv_gR S 11 a0 46).bind fun a2_ =>
      (rv_uI S a2_ x4 (0 : Int32)).bind fun S4_ =>
      rv_lt (x4 + (1)) fun x6_ =>
      cX13_ways_49 n k S4_ a0 x1 x2 x3 x6_)
set_option maxRecDepth 20000 in
set_option maxHeartbeats 4000000 in
theorem eX13_ways_49 (n : Nat) : ∀ (k : Nat) (S : rvS) (a0 : Nat) (x1 : Int32) (x2 : Int32) (x3 : Int32) (x4 : Int32) (r : Int32) (S' : rvS), cX13_ways_49 n k S a0 x1 x2 x3 x4 = some (r, S') → rv_Ev mX13_ways 12 49 [(0, .ref a0), (1, .int x1), (2, .int x2), (3, .int x3), (4, .int x4)] [] S (some (.int r)) S' := by
  intro k
  induction k with
  | zero => intro S a0 x1 x2 x3 x4 r S' h; exact absurd h (by simp [cX13_ways_49])
  | succ k ih =>
    intro S a0 x1 x2 x3 x4 r S' h
    unfold cX13_ways_49 at h
    refine re_iload (pc := 49) 4 (by decide +kernel : decode cX13_ways 49 = .ok (.iload 4, 2)) rfl ?_
    refine re_iconst (pc := 51) (5 : Int32) (by decide +kernel : decode cX13_ways 51 = .ok (.iconst 5, 1)) (by decide) ?_
    rcases rv_if_e h with ⟨g1_, h⟩ | ⟨g1_, h⟩
    · refine re_icmp_ge_t (pc := 52) 69 (by decide +kernel : decode cX13_ways 52 = .ok (.if_icmp .ge 17, 3)) (by decide) g1_ ?_
      refine re_sub [0, 1, 2, 3] (lv1 := [(0, .ref a0), (1, .int x1), (2, .int x2), (3, .int x3)]) rfl ?_
      exact eX13_ways_69 n S a0 x1 x2 x3 _ _ h
    · refine re_icmp_ge_f (pc := 52) 69 (by decide +kernel : decode cX13_ways 52 = .ok (.if_icmp .ge 17, 3)) (by decide) g1_ ?_
      refine re_aloadn (pc := 55) 0 (by decide +kernel : decode cX13_ways 55 = .ok (.aload_n 0, 1)) rfl ?_
      obtain ⟨a2_, g3_, h⟩ := rv_b_e h
      refine re_gR (pc := 56) g3_ lfX13_90 rfl (by decide +kernel : decode cX13_ways 56 = .ok (.getfield 90, 3)) ?_
      refine re_iload (pc := 59) 4 (by decide +kernel : decode cX13_ways 59 = .ok (.iload 4, 2)) rfl ?_
      refine re_iconst (pc := 61) (0 : Int32) (by decide +kernel : decode cX13_ways 61 = .ok (.iconst 0, 1)) (by decide) ?_
      obtain ⟨S4_, g5_, h⟩ := rv_b_e h
      refine re_uI (pc := 62) g5_ (by decide +kernel : decode cX13_ways 62 = .ok (.iastore, 1)) ?_
      obtain ⟨x6_, g7_, h⟩ := rv_lt_e h
      refine re_iinc (pc := 63) 4 x6_ (lv1 := [(4, .int x6_), (0, .ref a0), (1, .int x1), (2, .int x2), (3, .int x3)]) (by decide +kernel : decode cX13_ways 63 = .ok (.iinc 4 1, 3)) rfl g7_ (by decide) rfl ?_
      refine re_goto (pc := 66) 49 (by decide +kernel : decode cX13_ways 66 = .ok (.goto (-17), 3)) (by decide) ?_
      refine re_sub [1, 2, 3, 4, 0] (lv1 := [(0, .ref a0), (1, .int x1), (2, .int x2), (3, .int x3), (4, .int x6_)]) rfl ?_
      exact ih S4_ a0 x1 x2 x3 x6_ _ _ h
noncomputable def fnX13_ways (n : Nat) (S : rvS) (a0 : Nat) (x1 : Int32) (x2 : Int32) (x3 : Int32) : Option (Int32 × rvS) :=
  (rv_pI S 11 a0 0 (0 : Int32)).bind fun S1_ =>
  (rv_ck S1_ 11 a0).bind fun u3_ =>
  (fnX13_lay n S1_ a0).bind fun S6_ =>
  (rv_ck S6_ 11 a0).bind fun u9_ =>
  (fnX13_isCoin n S6_ a0 x1).bind fun x12_ =>
  if x12_ = 0 then (
    some ((-1 : Int32), S6_))
  else (
    (rv_ck S6_ 11 a0).bind fun u15_ =>
    (fnX13_isWho n S6_ a0 x2).bind fun x18_ =>
    if x18_ = 0 then (
      some ((-1 : Int32), S6_))
    else (
      (fnX13_isIn n S6_ x3 (1 : Int32) (5 : Int32)).bind fun x22_ =>
      if x22_ = 0 then (
        some ((-1 : Int32), S6_))
      else (
        (rv_pI S6_ 11 a0 48 (0 : Int32)).bind fun S25_ =>
        (rv_pI S25_ 11 a0 47 x3).bind fun S27_ =>
        cX13_ways_49 n n S27_ a0 x1 x2 x3 (0 : Int32))))
set_option maxRecDepth 20000 in
set_option maxHeartbeats 4000000 in
theorem eX13_ways_in (n : Nat) (S : rvS) (a0 : Nat) (x1 : Int32) (x2 : Int32) (x3 : Int32) (r : Int32) (S' : rvS) (h : fnX13_ways n S a0 x1 x2 x3 = some (r, S')) : rv_Ev mX13_ways 12 0 [(0, .ref a0), (1, .int x1), (2, .int x2), (3, .int x3)] [] S (some (.int r)) S' := by
  unfold fnX13_ways at h
  refine re_aloadn (pc := 0) 0 (by decide +kernel : decode cX13_ways 0 = .ok (.aload_n 0, 1)) rfl ?_
  refine re_iconst (pc := 1) (0 : Int32) (by decide +kernel : decode cX13_ways 1 = .ok (.iconst 0, 1)) (by decide) ?_
  obtain ⟨S1_, g2_, h⟩ := rv_b_e h
  refine re_pI (pc := 2) g2_ lfX13_99 rfl rfl rfl rfl (by decide +kernel : decode cX13_ways 2 = .ok (.putfield 99, 3)) ?_
  refine re_aloadn (pc := 5) 0 (by decide +kernel : decode cX13_ways 5 = .ok (.aload_n 0, 1)) rfl ?_
  obtain ⟨u3_, g4_, h⟩ := rv_b_e h
  obtain ⟨S6_, g7_, h⟩ := rv_b_e h
  have m5_ := metX13_lay n S1_ a0 _ g7_
  have z8_ : rv_same S1_ S6_ := m5_.sh rfl
  refine re_cV (pc := 6) [] m5_ (rv_okl.k z8_) (rv_up.sh z8_) (by decide) (rv_ck_e g4_) ⟨by decide, rfl⟩ (Nat.le_of_ble_eq_true rfl) lVX13_187 rfl (by decide +kernel : decode cX13_ways 6 = .ok (.invokevirtual 187, 3)) ?_
  refine re_aloadn (pc := 9) 0 (by decide +kernel : decode cX13_ways 9 = .ok (.aload_n 0, 1)) rfl ?_
  refine re_iloadn (pc := 10) 1 (by decide +kernel : decode cX13_ways 10 = .ok (.iload_n 1, 1)) rfl ?_
  obtain ⟨u9_, g10_, h⟩ := rv_b_e h
  obtain ⟨x12_, g13_, h⟩ := rv_b_e h
  have m11_ := metX13_isCoin n S6_ a0 x1 _ g13_
  refine re_cV (pc := 11) [.int x1] m11_ (rv_okl.k ⟨rfl, rfl⟩) (rv_up.rf _ _) (by decide) (rv_ck_e g10_) ⟨by decide, rfl⟩ (Nat.le_of_ble_eq_true rfl) lVX13_277 rfl (by decide +kernel : decode cX13_ways 11 = .ok (.invokevirtual 277, 3)) ?_
  rcases rv_if_e h with ⟨g14_, h⟩ | ⟨g14_, h⟩
  · refine re_if_eq_t (pc := 14) 34 (by decide +kernel : decode cX13_ways 14 = .ok (.ifCond .eq 20, 3)) (by decide) g14_ ?_
    refine re_iconst (pc := 34) (-1 : Int32) (by decide +kernel : decode cX13_ways 34 = .ok (.iconst (-1), 1)) (by decide) ?_
    cases h
    exact re_iret (fun ty hty => by cases hty; rfl) (by decide +kernel : decode cX13_ways 35 = .ok (.ireturn, 1))
  · refine re_if_eq_f (pc := 14) 34 (by decide +kernel : decode cX13_ways 14 = .ok (.ifCond .eq 20, 3)) (by decide) g14_ ?_
    refine re_aloadn (pc := 17) 0 (by decide +kernel : decode cX13_ways 17 = .ok (.aload_n 0, 1)) rfl ?_
    refine re_iloadn (pc := 18) 2 (by decide +kernel : decode cX13_ways 18 = .ok (.iload_n 2, 1)) rfl ?_
    obtain ⟨u15_, g16_, h⟩ := rv_b_e h
    obtain ⟨x18_, g19_, h⟩ := rv_b_e h
    have m17_ := metX13_isWho n S6_ a0 x2 _ g19_
    refine re_cV (pc := 19) [.int x2] m17_ (rv_okl.k ⟨rfl, rfl⟩) (rv_up.rf _ _) (by decide) (rv_ck_e g16_) ⟨by decide, rfl⟩ (Nat.le_of_ble_eq_true rfl) lVX13_265 rfl (by decide +kernel : decode cX13_ways 19 = .ok (.invokevirtual 265, 3)) ?_
    rcases rv_if_e h with ⟨g20_, h⟩ | ⟨g20_, h⟩
    · refine re_if_eq_t (pc := 22) 34 (by decide +kernel : decode cX13_ways 22 = .ok (.ifCond .eq 12, 3)) (by decide) g20_ ?_
      refine re_iconst (pc := 34) (-1 : Int32) (by decide +kernel : decode cX13_ways 34 = .ok (.iconst (-1), 1)) (by decide) ?_
      cases h
      exact re_iret (fun ty hty => by cases hty; rfl) (by decide +kernel : decode cX13_ways 35 = .ok (.ireturn, 1))
    · refine re_if_eq_f (pc := 22) 34 (by decide +kernel : decode cX13_ways 22 = .ok (.ifCond .eq 12, 3)) (by decide) g20_ ?_
      refine re_iloadn (pc := 25) 3 (by decide +kernel : decode cX13_ways 25 = .ok (.iload_n 3, 1)) rfl ?_
      refine re_iconst (pc := 26) (1 : Int32) (by decide +kernel : decode cX13_ways 26 = .ok (.iconst 1, 1)) (by decide) ?_
      refine re_iconst (pc := 27) (5 : Int32) (by decide +kernel : decode cX13_ways 27 = .ok (.iconst 5, 1)) (by decide) ?_
      obtain ⟨x22_, g23_, h⟩ := rv_b_e h
      have m21_ := metX13_isIn n S6_ x3 (1 : Int32) (5 : Int32) _ g23_
      refine re_cS (pc := 28) [.int x3, .int (1 : Int32), .int (5 : Int32)] m21_ (rv_okl.k ⟨rfl, rfl⟩) (rv_up.rf _ _) (by decide) (Nat.le_of_ble_eq_true rfl) lSX13_170 rfl (by decide +kernel : decode cX13_ways 28 = .ok (.invokestatic 170, 3)) ?_
      rcases rv_if_e h with ⟨g24_, h⟩ | ⟨g24_, h⟩
      · refine re_if_ne_f (pc := 31) 36 (by decide +kernel : decode cX13_ways 31 = .ok (.ifCond .ne 5, 3)) (by decide) g24_ ?_
        refine re_iconst (pc := 34) (-1 : Int32) (by decide +kernel : decode cX13_ways 34 = .ok (.iconst (-1), 1)) (by decide) ?_
        cases h
        exact re_iret (fun ty hty => by cases hty; rfl) (by decide +kernel : decode cX13_ways 35 = .ok (.ireturn, 1))
      · refine re_if_ne_t (pc := 31) 36 (by decide +kernel : decode cX13_ways 31 = .ok (.ifCond .ne 5, 3)) (by decide) g24_ ?_
        refine re_aloadn (pc := 36) 0 (by decide +kernel : decode cX13_ways 36 = .ok (.aload_n 0, 1)) rfl ?_
        refine re_iconst (pc := 37) (0 : Int32) (by decide +kernel : decode cX13_ways 37 = .ok (.iconst 0, 1)) (by decide) ?_
        obtain ⟨S25_, g26_, h⟩ := rv_b_e h
        refine re_pI (pc := 38) g26_ lfX13_426 rfl rfl rfl rfl (by decide +kernel : decode cX13_ways 38 = .ok (.putfield 426, 3)) ?_
        refine re_aloadn (pc := 41) 0 (by decide +kernel : decode cX13_ways 41 = .ok (.aload_n 0, 1)) rfl ?_
        refine re_iloadn (pc := 42) 3 (by decide +kernel : decode cX13_ways 42 = .ok (.iload_n 3, 1)) rfl ?_
        obtain ⟨S27_, g28_, h⟩ := rv_b_e h
        refine re_pI (pc := 43) g28_ lfX13_432 rfl rfl rfl rfl (by decide +kernel : decode cX13_ways 43 = .ok (.putfield 432, 3)) ?_
        refine re_iconst (pc := 46) (0 : Int32) (by decide +kernel : decode cX13_ways 46 = .ok (.iconst 0, 1)) (by decide) ?_
        refine re_istore (pc := 47) (lv1 := [(4, .int (0 : Int32)), (0, .ref a0), (1, .int x1), (2, .int x2), (3, .int x3)]) (by decide +kernel : decode cX13_ways 47 = .ok (.istore 4, 2)) (by decide) rfl ?_
        refine re_sub [1, 2, 3, 4, 0] (lv1 := [(0, .ref a0), (1, .int x1), (2, .int x2), (3, .int x3), (4, .int (0 : Int32))]) rfl ?_
        exact eX13_ways_49 n n S27_ a0 x1 x2 x3 (0 : Int32) _ _ h
theorem metX13_ways (n : Nat) (S : rvS) (a0 : Nat) (x1 : Int32) (x2 : Int32) (x3 : Int32) (r : Int32) (S' : rvS) (h : fnX13_ways n S a0 x1 x2 x3 = some (r, S')) : rv_Met yX13_ways mX13_ways 12 [.ref a0, .int x1, .int x2, .int x3] S (some (.int r)) S' := rv_Met.of ⟨by decide +kernel, rfl, (fun z => by first | rfl | cases z), rfl⟩ (Nat.le_of_ble_eq_true rfl) rfl (eX13_ways_in n S a0 x1 x2 x3 r S' h)
noncomputable def fnX13_had (n : Nat) (S : rvS) (a0 : Nat) (x1 : Int32) : Option (Int32 × rvS) :=
  (rv_pI S 11 a0 0 (0 : Int32)).bind fun S1_ =>
  if x1 < 0 then (
    some ((-1 : Int32), S1_))
  else (
    (rv_gI S1_ 11 a0 47).bind fun x4_ =>
    if x4_ ≤ x1 then (
      some ((-1 : Int32), S1_))
    else (
      (rv_gR S1_ 11 a0 46).bind fun a7_ =>
      (rv_aI S1_ 0 a7_ x1).bind fun x9_ =>
      some (x9_, S1_)))
set_option maxRecDepth 20000 in
set_option maxHeartbeats 4000000 in
theorem eX13_had_in (n : Nat) (S : rvS) (a0 : Nat) (x1 : Int32) (r : Int32) (S' : rvS) (h : fnX13_had n S a0 x1 = some (r, S')) : rv_Ev mX13_had 0 0 [(0, .ref a0), (1, .int x1)] [] S (some (.int r)) S' := by
  unfold fnX13_had at h
  refine re_aloadn (pc := 0) 0 (by decide +kernel : decode cX13_had 0 = .ok (.aload_n 0, 1)) rfl ?_
  refine re_iconst (pc := 1) (0 : Int32) (by decide +kernel : decode cX13_had 1 = .ok (.iconst 0, 1)) (by decide) ?_
  obtain ⟨S1_, g2_, h⟩ := rv_b_e h
  refine re_pI (pc := 2) g2_ lfX13_99 rfl rfl rfl rfl (by decide +kernel : decode cX13_had 2 = .ok (.putfield 99, 3)) ?_
  refine re_iloadn (pc := 5) 1 (by decide +kernel : decode cX13_had 5 = .ok (.iload_n 1, 1)) rfl ?_
  rcases rv_if_e h with ⟨g3_, h⟩ | ⟨g3_, h⟩
  · refine re_if_lt_t (pc := 6) 26 (by decide +kernel : decode cX13_had 6 = .ok (.ifCond .lt 20, 3)) (by decide) g3_ ?_
    refine re_iconst (pc := 26) (-1 : Int32) (by decide +kernel : decode cX13_had 26 = .ok (.iconst (-1), 1)) (by decide) ?_
    cases h
    exact re_iret (fun ty hty => by cases hty; rfl) (by decide +kernel : decode cX13_had 27 = .ok (.ireturn, 1))
  · refine re_if_lt_f (pc := 6) 26 (by decide +kernel : decode cX13_had 6 = .ok (.ifCond .lt 20, 3)) (by decide) g3_ ?_
    refine re_iloadn (pc := 9) 1 (by decide +kernel : decode cX13_had 9 = .ok (.iload_n 1, 1)) rfl ?_
    refine re_aloadn (pc := 10) 0 (by decide +kernel : decode cX13_had 10 = .ok (.aload_n 0, 1)) rfl ?_
    obtain ⟨x4_, g5_, h⟩ := rv_b_e h
    refine re_gI (pc := 11) g5_ lfX13_432 rfl (by decide +kernel : decode cX13_had 11 = .ok (.getfield 432, 3)) ?_
    rcases rv_if_e h with ⟨g6_, h⟩ | ⟨g6_, h⟩
    · refine re_icmp_ge_t (pc := 14) 26 (by decide +kernel : decode cX13_had 14 = .ok (.if_icmp .ge 12, 3)) (by decide) g6_ ?_
      refine re_iconst (pc := 26) (-1 : Int32) (by decide +kernel : decode cX13_had 26 = .ok (.iconst (-1), 1)) (by decide) ?_
      cases h
      exact re_iret (fun ty hty => by cases hty; rfl) (by decide +kernel : decode cX13_had 27 = .ok (.ireturn, 1))
    · refine re_icmp_ge_f (pc := 14) 26 (by decide +kernel : decode cX13_had 14 = .ok (.if_icmp .ge 12, 3)) (by decide) g6_ ?_
      refine re_aloadn (pc := 17) 0 (by decide +kernel : decode cX13_had 17 = .ok (.aload_n 0, 1)) rfl ?_
      obtain ⟨a7_, g8_, h⟩ := rv_b_e h
      refine re_gR (pc := 18) g8_ lfX13_90 rfl (by decide +kernel : decode cX13_had 18 = .ok (.getfield 90, 3)) ?_
      refine re_iloadn (pc := 21) 1 (by decide +kernel : decode cX13_had 21 = .ok (.iload_n 1, 1)) rfl ?_
      obtain ⟨x9_, g10_, h⟩ := rv_b_e h
      refine re_aI (pc := 22) g10_ (by decide +kernel : decode cX13_had 22 = .ok (.iaload, 1)) ?_
      refine re_goto (pc := 23) 27 (by decide +kernel : decode cX13_had 23 = .ok (.goto 4, 3)) (by decide) ?_
      cases h
      exact re_iret (fun ty hty => by cases hty; rfl) (by decide +kernel : decode cX13_had 27 = .ok (.ireturn, 1))
theorem metX13_had (n : Nat) (S : rvS) (a0 : Nat) (x1 : Int32) (r : Int32) (S' : rvS) (h : fnX13_had n S a0 x1 = some (r, S')) : rv_Met yX13_had mX13_had 0 [.ref a0, .int x1] S (some (.int r)) S' := rv_Met.of ⟨by decide +kernel, rfl, (fun z => by first | rfl | cases z), rfl⟩ (Nat.le_of_ble_eq_true rfl) rfl (eX13_had_in n S a0 x1 r S' h)
noncomputable def fnX13_draw (n : Nat) (S : rvS) (a0 : Nat) (x1 : Int32) : Option (Int32 × rvS) :=
  (rv_gI S 11 a0 49).bind fun x1_ =>
  (rv_pI S 11 a0 49 ((x1_ * (1103515245 : Int32)) + (12345 : Int32))).bind fun S3_ =>
  (rv_gI S3_ 11 a0 49).bind fun x5_ =>
  (rv_nz x1).bind fun u7_ =>
  some (((x5_.toUInt32 >>> ((8 : Int32).toUInt32 &&& Int32.toUInt32 31)).toInt32) - ((x5_.toUInt32 >>> ((8 : Int32).toUInt32 &&& Int32.toUInt32 31)).toInt32) / x1 * x1, S3_)
set_option maxRecDepth 20000 in
set_option maxHeartbeats 4000000 in
theorem eX13_draw_in (n : Nat) (S : rvS) (a0 : Nat) (x1 : Int32) (r : Int32) (S' : rvS) (h : fnX13_draw n S a0 x1 = some (r, S')) : rv_Ev mX13_draw 0 0 [(0, .ref a0), (1, .int x1)] [] S (some (.int r)) S' := by
  unfold fnX13_draw at h
  refine re_aloadn (pc := 0) 0 (by decide +kernel : decode cX13_draw 0 = .ok (.aload_n 0, 1)) rfl ?_
  refine re_aloadn (pc := 1) 0 (by decide +kernel : decode cX13_draw 1 = .ok (.aload_n 0, 1)) rfl ?_
  obtain ⟨x1_, g2_, h⟩ := rv_b_e h
  refine re_gI (pc := 2) g2_ lfX13_435 rfl (by decide +kernel : decode cX13_draw 2 = .ok (.getfield 435, 3)) ?_
  refine re_ldcw (pc := 5) (v := 1103515245) (rw9 183 (by decide +kernel) rfl) (by decide +kernel : decode cX13_draw 5 = .ok (.ldc_w 438, 3)) ?_
  refine re_imul (pc := 8) (by decide +kernel : decode cX13_draw 8 = .ok (.imul, 1)) ?_
  refine re_sipush (pc := 9) (12345 : Int32) (by decide +kernel : decode cX13_draw 9 = .ok (.sipush 12345, 3)) (by decide) ?_
  refine re_iadd (pc := 12) (by decide +kernel : decode cX13_draw 12 = .ok (.iadd, 1)) ?_
  obtain ⟨S3_, g4_, h⟩ := rv_b_e h
  refine re_pI (pc := 13) g4_ lfX13_435 rfl rfl rfl rfl (by decide +kernel : decode cX13_draw 13 = .ok (.putfield 435, 3)) ?_
  refine re_aloadn (pc := 16) 0 (by decide +kernel : decode cX13_draw 16 = .ok (.aload_n 0, 1)) rfl ?_
  obtain ⟨x5_, g6_, h⟩ := rv_b_e h
  refine re_gI (pc := 17) g6_ lfX13_435 rfl (by decide +kernel : decode cX13_draw 17 = .ok (.getfield 435, 3)) ?_
  refine re_bipush (pc := 20) (8 : Int32) (by decide +kernel : decode cX13_draw 20 = .ok (.bipush 8, 2)) (by decide) ?_
  refine re_iushr (pc := 22) (by decide +kernel : decode cX13_draw 22 = .ok (.iushr, 1)) ?_
  refine re_iloadn (pc := 23) 1 (by decide +kernel : decode cX13_draw 23 = .ok (.iload_n 1, 1)) rfl ?_
  obtain ⟨u7_, g8_, h⟩ := rv_b_e h
  refine re_irem (pc := 24) (by decide +kernel : decode cX13_draw 24 = .ok (.irem, 1)) (rv_nz_e g8_) ?_
  cases h
  exact re_iret (fun ty hty => by cases hty; rfl) (by decide +kernel : decode cX13_draw 25 = .ok (.ireturn, 1))
theorem metX13_draw (n : Nat) (S : rvS) (a0 : Nat) (x1 : Int32) (r : Int32) (S' : rvS) (h : fnX13_draw n S a0 x1 = some (r, S')) : rv_Met yX13_draw mX13_draw 0 [.ref a0, .int x1] S (some (.int r)) S' := rv_Met.of ⟨by decide +kernel, rfl, (fun z => by first | rfl | cases z), rfl⟩ (Nat.le_of_ble_eq_true rfl) rfl (eX13_draw_in n S a0 x1 r S' h)
noncomputable def cX13_ownedBy_5 (n : Nat) (S : rvS) : Nat → Nat → Int32 → Int32 → Int32 → Int32 → Option Int32
  | 0, _, _, _, _, _ => none
  | k + 1, a0, x1, x2, x3, x4 =>
    (rv_ck S 11 a0).bind fun u1_ =>
    (fnX13_coins n S a0).bind fun x4_ =>
    if x4_ ≤ x4 then (
      some x3)
    else (
      (rv_ck S 11 a0).bind fun u7_ =>
      (fnX13_ofCoin n S a0 x4 (1 : Int32)).bind fun x10_ =>
      if x10_ = x1 then (
        if x3 = x2 then (
          some x4)
        else (
          rv_lt (x3 + (1)) fun x14_ =>
          rv_lt (x4 + (1)) fun x16_ =>
          cX13_ownedBy_5 n S k a0 x1 x2 x14_ x16_))
      else (
        rv_lt (x4 + (1)) fun x18_ =>
        cX13_ownedBy_5 n S k a0 x1 x2 x3 x18_))
set_option maxRecDepth 20000 in
set_option maxHeartbeats 4000000 in
theorem eX13_ownedBy_5 (n : Nat) (S : rvS) : ∀ (k : Nat) (a0 : Nat) (x1 : Int32) (x2 : Int32) (x3 : Int32) (x4 : Int32) (r : Int32), cX13_ownedBy_5 n S k a0 x1 x2 x3 x4 = some r → rv_Ev mX13_ownedBy 1 5 [(0, .ref a0), (1, .int x1), (2, .int x2), (3, .int x3), (4, .int x4)] [] S (some (.int r)) S := by
  intro k
  induction k with
  | zero => intro a0 x1 x2 x3 x4 r h; exact absurd h (by simp [cX13_ownedBy_5])
  | succ k ih =>
    intro a0 x1 x2 x3 x4 r h
    unfold cX13_ownedBy_5 at h
    refine re_iload (pc := 5) 4 (by decide +kernel : decode cX13_ownedBy 5 = .ok (.iload 4, 2)) rfl ?_
    refine re_aloadn (pc := 7) 0 (by decide +kernel : decode cX13_ownedBy 7 = .ok (.aload_n 0, 1)) rfl ?_
    obtain ⟨u1_, g2_, h⟩ := rv_b_e h
    obtain ⟨x4_, g5_, h⟩ := rv_b_e h
    have m3_ := metX13_coins n S a0 _ g5_
    refine re_cV (pc := 8) [] m3_ (rv_okl.k ⟨rfl, rfl⟩) (rv_up.rf _ _) (by decide) (rv_ck_e g2_) ⟨by decide, rfl⟩ (Nat.le_of_ble_eq_true rfl) lVX13_258 rfl (by decide +kernel : decode cX13_ownedBy 8 = .ok (.invokevirtual 258, 3)) ?_
    rcases rv_if_e h with ⟨g6_, h⟩ | ⟨g6_, h⟩
    · refine re_icmp_ge_t (pc := 11) 45 (by decide +kernel : decode cX13_ownedBy 11 = .ok (.if_icmp .ge 34, 3)) (by decide) g6_ ?_
      refine re_iloadn (pc := 45) 3 (by decide +kernel : decode cX13_ownedBy 45 = .ok (.iload_n 3, 1)) rfl ?_
      cases h
      exact re_iret (fun ty hty => by cases hty; rfl) (by decide +kernel : decode cX13_ownedBy 46 = .ok (.ireturn, 1))
    · refine re_icmp_ge_f (pc := 11) 45 (by decide +kernel : decode cX13_ownedBy 11 = .ok (.if_icmp .ge 34, 3)) (by decide) g6_ ?_
      refine re_aloadn (pc := 14) 0 (by decide +kernel : decode cX13_ownedBy 14 = .ok (.aload_n 0, 1)) rfl ?_
      refine re_iload (pc := 15) 4 (by decide +kernel : decode cX13_ownedBy 15 = .ok (.iload 4, 2)) rfl ?_
      refine re_iconst (pc := 17) (1 : Int32) (by decide +kernel : decode cX13_ownedBy 17 = .ok (.iconst 1, 1)) (by decide) ?_
      obtain ⟨u7_, g8_, h⟩ := rv_b_e h
      obtain ⟨x10_, g11_, h⟩ := rv_b_e h
      have m9_ := metX13_ofCoin n S a0 x4 (1 : Int32) _ g11_
      refine re_cV (pc := 18) [.int x4, .int (1 : Int32)] m9_ (rv_okl.k ⟨rfl, rfl⟩) (rv_up.rf _ _) (by decide) (rv_ck_e g8_) ⟨by decide, rfl⟩ (Nat.le_of_ble_eq_true rfl) lVX13_271 rfl (by decide +kernel : decode cX13_ownedBy 18 = .ok (.invokevirtual 271, 3)) ?_
      refine re_iloadn (pc := 21) 1 (by decide +kernel : decode cX13_ownedBy 21 = .ok (.iload_n 1, 1)) rfl ?_
      rcases rv_if_e h with ⟨g12_, h⟩ | ⟨g12_, h⟩
      · refine re_icmp_eq_t (pc := 22) 28 (by decide +kernel : decode cX13_ownedBy 22 = .ok (.if_icmp .eq 6, 3)) (by decide) g12_ ?_
        refine re_iloadn (pc := 28) 3 (by decide +kernel : decode cX13_ownedBy 28 = .ok (.iload_n 3, 1)) rfl ?_
        refine re_iloadn (pc := 29) 2 (by decide +kernel : decode cX13_ownedBy 29 = .ok (.iload_n 2, 1)) rfl ?_
        rcases rv_if_e h with ⟨g13_, h⟩ | ⟨g13_, h⟩
        · refine re_icmp_ne_f (pc := 30) 36 (by decide +kernel : decode cX13_ownedBy 30 = .ok (.if_icmp .ne 6, 3)) (by decide) g13_ ?_
          refine re_iload (pc := 33) 4 (by decide +kernel : decode cX13_ownedBy 33 = .ok (.iload 4, 2)) rfl ?_
          cases h
          exact re_iret (fun ty hty => by cases hty; rfl) (by decide +kernel : decode cX13_ownedBy 35 = .ok (.ireturn, 1))
        · refine re_icmp_ne_t (pc := 30) 36 (by decide +kernel : decode cX13_ownedBy 30 = .ok (.if_icmp .ne 6, 3)) (by decide) g13_ ?_
          obtain ⟨x14_, g15_, h⟩ := rv_lt_e h
          refine re_iinc (pc := 36) 3 x14_ (lv1 := [(3, .int x14_), (0, .ref a0), (1, .int x1), (2, .int x2), (4, .int x4)]) (by decide +kernel : decode cX13_ownedBy 36 = .ok (.iinc 3 1, 3)) rfl g15_ (by decide) rfl ?_
          obtain ⟨x16_, g17_, h⟩ := rv_lt_e h
          refine re_iinc (pc := 39) 4 x16_ (lv1 := [(4, .int x16_), (3, .int x14_), (0, .ref a0), (1, .int x1), (2, .int x2)]) (by decide +kernel : decode cX13_ownedBy 39 = .ok (.iinc 4 1, 3)) rfl g17_ (by decide) rfl ?_
          refine re_goto (pc := 42) 5 (by decide +kernel : decode cX13_ownedBy 42 = .ok (.goto (-37), 3)) (by decide) ?_
          refine re_sub [2, 3, 4, 1, 0] (lv1 := [(0, .ref a0), (1, .int x1), (2, .int x2), (3, .int x14_), (4, .int x16_)]) rfl ?_
          exact ih a0 x1 x2 x14_ x16_ _ h
      · refine re_icmp_eq_f (pc := 22) 28 (by decide +kernel : decode cX13_ownedBy 22 = .ok (.if_icmp .eq 6, 3)) (by decide) g12_ ?_
        refine re_goto (pc := 25) 39 (by decide +kernel : decode cX13_ownedBy 25 = .ok (.goto 14, 3)) (by decide) ?_
        obtain ⟨x18_, g19_, h⟩ := rv_lt_e h
        refine re_iinc (pc := 39) 4 x18_ (lv1 := [(4, .int x18_), (0, .ref a0), (1, .int x1), (2, .int x2), (3, .int x3)]) (by decide +kernel : decode cX13_ownedBy 39 = .ok (.iinc 4 1, 3)) rfl g19_ (by decide) rfl ?_
        refine re_goto (pc := 42) 5 (by decide +kernel : decode cX13_ownedBy 42 = .ok (.goto (-37), 3)) (by decide) ?_
        refine re_sub [1, 2, 3, 4, 0] (lv1 := [(0, .ref a0), (1, .int x1), (2, .int x2), (3, .int x3), (4, .int x18_)]) rfl ?_
        exact ih a0 x1 x2 x3 x18_ _ h
noncomputable def fnX13_ownedBy (n : Nat) (S : rvS) (a0 : Nat) (x1 : Int32) (x2 : Int32) : Option Int32 :=
  cX13_ownedBy_5 n S n a0 x1 x2 (0 : Int32) (0 : Int32)
set_option maxRecDepth 20000 in
set_option maxHeartbeats 4000000 in
theorem eX13_ownedBy_in (n : Nat) (S : rvS) (a0 : Nat) (x1 : Int32) (x2 : Int32) (r : Int32) (h : fnX13_ownedBy n S a0 x1 x2 = some r) : rv_Ev mX13_ownedBy 1 0 [(0, .ref a0), (1, .int x1), (2, .int x2)] [] S (some (.int r)) S := by
  unfold fnX13_ownedBy at h
  refine re_iconst (pc := 0) (0 : Int32) (by decide +kernel : decode cX13_ownedBy 0 = .ok (.iconst 0, 1)) (by decide) ?_
  refine re_istoren (pc := 1) (lv1 := [(3, .int (0 : Int32)), (0, .ref a0), (1, .int x1), (2, .int x2)]) (by decide +kernel : decode cX13_ownedBy 1 = .ok (.istore_n 3, 1)) rfl (by decide) rfl ?_
  refine re_iconst (pc := 2) (0 : Int32) (by decide +kernel : decode cX13_ownedBy 2 = .ok (.iconst 0, 1)) (by decide) ?_
  refine re_istore (pc := 3) (lv1 := [(4, .int (0 : Int32)), (3, .int (0 : Int32)), (0, .ref a0), (1, .int x1), (2, .int x2)]) (by decide +kernel : decode cX13_ownedBy 3 = .ok (.istore 4, 2)) (by decide) rfl ?_
  refine re_sub [2, 3, 4, 1, 0] (lv1 := [(0, .ref a0), (1, .int x1), (2, .int x2), (3, .int (0 : Int32)), (4, .int (0 : Int32))]) rfl ?_
  exact eX13_ownedBy_5 n S n a0 x1 x2 (0 : Int32) (0 : Int32) _ h
theorem metX13_ownedBy (n : Nat) (S : rvS) (a0 : Nat) (x1 : Int32) (x2 : Int32) (r : Int32) (h : fnX13_ownedBy n S a0 x1 x2 = some r) : rv_Met yX13_ownedBy mX13_ownedBy 1 [.ref a0, .int x1, .int x2] S (some (.int r)) S := rv_Met.of ⟨by decide +kernel, rfl, (fun z => by first | rfl | cases z), rfl⟩ (Nat.le_of_ble_eq_true rfl) rfl (eX13_ownedBy_in n S a0 x1 x2 r h)
noncomputable def cX13_day_128 (n : Nat) (S : rvS) (a0 : Nat) : Option rvS :=
  (rv_ck S 11 a0).bind fun u1_ =>
  rv_bp (fnX13_draw n S a0 (16 : Int32)) fun x4_ S5_ =>
  if x4_ = 0 then (
    (rv_ck S5_ 11 a0).bind fun u9_ =>
    (fnX13_whos n S5_ a0).bind fun x12_ =>
    (rv_ck S5_ 11 a0).bind fun u14_ =>
    rv_bp (fnX13_draw n S5_ a0 x12_) fun x17_ S18_ =>
    (rv_ck S18_ 11 a0).bind fun u21_ =>
    (fnX13_coins n S18_ a0).bind fun x24_ =>
    (rv_ck S18_ 11 a0).bind fun u26_ =>
    rv_bp (fnX13_draw n S18_ a0 x24_) fun x29_ S30_ =>
    (rv_ck S30_ 11 a0).bind fun u33_ =>
    (fnX13_isDead n S30_ a0 x17_).bind fun x36_ =>
    if x36_ = 0 then (
      (rv_ck S30_ 11 a0).bind fun u39_ =>
      (fnX13_ofCoin n S30_ a0 x29_ (1 : Int32)).bind fun x42_ =>
      if x42_ = x17_ then (
        some S30_)
      else (
        (rv_gR S30_ 11 a0 14).bind fun a45_ =>
        (rv_uI S30_ a45_ (((132 : Int32) + ((6 : Int32) * x29_)) + (1 : Int32)) x17_).bind fun S47_ =>
        (rv_gI S47_ 11 a0 53).bind fun x49_ =>
        (rv_pI S47_ 11 a0 53 (x49_ + (1 : Int32))).bind fun S51_ =>
        some S51_))
    else (
      some S30_))
  else (
    some S5_)
set_option maxRecDepth 20000 in
set_option maxHeartbeats 4000000 in
theorem eX13_day_128 (n : Nat) (S : rvS) (a0 : Nat) (S' : rvS) (h : cX13_day_128 n S a0 = some S') : rv_Ev mX13_day 4 128 [(0, .ref a0)] [] S none S' := by
  unfold cX13_day_128 at h
  refine re_aloadn (pc := 128) 0 (by decide +kernel : decode cX13_day 128 = .ok (.aload_n 0, 1)) rfl ?_
  refine re_bipush (pc := 129) (16 : Int32) (by decide +kernel : decode cX13_day 129 = .ok (.bipush 16, 2)) (by decide) ?_
  obtain ⟨u1_, g2_, h⟩ := rv_b_e h
  obtain ⟨x4_, S5_, g6_, h⟩ := rv_bp_e h
  have m3_ := metX13_draw n S a0 (16 : Int32) _ _ g6_
  have z7_ : rv_same S S5_ := m3_.sh rfl
  refine re_cV (pc := 131) [.int (16 : Int32)] m3_ (rv_okl.k z7_) (rv_up.sh z7_) (by decide) (rv_ck_e g2_) ⟨by decide, rfl⟩ (Nat.le_of_ble_eq_true rfl) lVX13_439 rfl (by decide +kernel : decode cX13_day 131 = .ok (.invokevirtual 439, 3)) ?_
  rcases rv_if_e h with ⟨g8_, h⟩ | ⟨g8_, h⟩
  · refine re_if_ne_f (pc := 134) 207 (by decide +kernel : decode cX13_day 134 = .ok (.ifCond .ne 73, 3)) (by decide) g8_ ?_
    refine re_aloadn (pc := 137) 0 (by decide +kernel : decode cX13_day 137 = .ok (.aload_n 0, 1)) rfl ?_
    refine re_aloadn (pc := 138) 0 (by decide +kernel : decode cX13_day 138 = .ok (.aload_n 0, 1)) rfl ?_
    obtain ⟨u9_, g10_, h⟩ := rv_b_e h
    obtain ⟨x12_, g13_, h⟩ := rv_b_e h
    have m11_ := metX13_whos n S5_ a0 _ g13_
    refine re_cV (pc := 139) [] m11_ (rv_okl.k ⟨rfl, rfl⟩) (rv_up.rf _ _) (by decide) (rv_ck_e g10_) ⟨by decide, rfl⟩ (Nat.le_of_ble_eq_true rfl) lVX13_255 rfl (by decide +kernel : decode cX13_day 139 = .ok (.invokevirtual 255, 3)) ?_
    obtain ⟨u14_, g15_, h⟩ := rv_b_e h
    obtain ⟨x17_, S18_, g19_, h⟩ := rv_bp_e h
    have m16_ := metX13_draw n S5_ a0 x12_ _ _ g19_
    have z20_ : rv_same S5_ S18_ := m16_.sh rfl
    refine re_cV (pc := 142) [.int x12_] m16_ (rv_okl.k z20_) (rv_up.sh z20_) (by decide) (rv_ck_e g15_) ⟨by decide, rfl⟩ (Nat.le_of_ble_eq_true rfl) lVX13_439 rfl (by decide +kernel : decode cX13_day 142 = .ok (.invokevirtual 439, 3)) ?_
    refine re_istore (pc := 145) (lv1 := [(5, .int x17_), (0, .ref a0)]) (by decide +kernel : decode cX13_day 145 = .ok (.istore 5, 2)) (by decide) rfl ?_
    refine re_aloadn (pc := 147) 1 (by decide +kernel : decode cX13_day 147 = .ok (.aload_n 0, 1)) rfl ?_
    refine re_aloadn (pc := 148) 1 (by decide +kernel : decode cX13_day 148 = .ok (.aload_n 0, 1)) rfl ?_
    obtain ⟨u21_, g22_, h⟩ := rv_b_e h
    obtain ⟨x24_, g25_, h⟩ := rv_b_e h
    have m23_ := metX13_coins n S18_ a0 _ g25_
    refine re_cV (pc := 149) [] m23_ (rv_okl.k ⟨rfl, rfl⟩) (rv_up.rf _ _) (by decide) (rv_ck_e g22_) ⟨by decide, rfl⟩ (Nat.le_of_ble_eq_true rfl) lVX13_258 rfl (by decide +kernel : decode cX13_day 149 = .ok (.invokevirtual 258, 3)) ?_
    obtain ⟨u26_, g27_, h⟩ := rv_b_e h
    obtain ⟨x29_, S30_, g31_, h⟩ := rv_bp_e h
    have m28_ := metX13_draw n S18_ a0 x24_ _ _ g31_
    have z32_ : rv_same S18_ S30_ := m28_.sh rfl
    refine re_cV (pc := 152) [.int x24_] m28_ (rv_okl.k z32_) (rv_up.sh z32_) (by decide) (rv_ck_e g27_) ⟨by decide, rfl⟩ (Nat.le_of_ble_eq_true rfl) lVX13_439 rfl (by decide +kernel : decode cX13_day 152 = .ok (.invokevirtual 439, 3)) ?_
    refine re_istore (pc := 155) (lv1 := [(6, .int x29_), (5, .int x17_), (0, .ref a0)]) (by decide +kernel : decode cX13_day 155 = .ok (.istore 6, 2)) (by decide) rfl ?_
    refine re_aloadn (pc := 157) 2 (by decide +kernel : decode cX13_day 157 = .ok (.aload_n 0, 1)) rfl ?_
    refine re_iload (pc := 158) 1 (by decide +kernel : decode cX13_day 158 = .ok (.iload 5, 2)) rfl ?_
    obtain ⟨u33_, g34_, h⟩ := rv_b_e h
    obtain ⟨x36_, g37_, h⟩ := rv_b_e h
    have m35_ := metX13_isDead n S30_ a0 x17_ _ g37_
    refine re_cV (pc := 160) [.int x17_] m35_ (rv_okl.k ⟨rfl, rfl⟩) (rv_up.rf _ _) (by decide) (rv_ck_e g34_) ⟨by decide, rfl⟩ (Nat.le_of_ble_eq_true rfl) lVX13_292 rfl (by decide +kernel : decode cX13_day 160 = .ok (.invokevirtual 292, 3)) ?_
    rcases rv_if_e h with ⟨g38_, h⟩ | ⟨g38_, h⟩
    · refine re_if_ne_f (pc := 163) 178 (by decide +kernel : decode cX13_day 163 = .ok (.ifCond .ne 15, 3)) (by decide) g38_ ?_
      refine re_aloadn (pc := 166) 2 (by decide +kernel : decode cX13_day 166 = .ok (.aload_n 0, 1)) rfl ?_
      refine re_iload (pc := 167) 0 (by decide +kernel : decode cX13_day 167 = .ok (.iload 6, 2)) rfl ?_
      refine re_iconst (pc := 169) (1 : Int32) (by decide +kernel : decode cX13_day 169 = .ok (.iconst 1, 1)) (by decide) ?_
      obtain ⟨u39_, g40_, h⟩ := rv_b_e h
      obtain ⟨x42_, g43_, h⟩ := rv_b_e h
      have m41_ := metX13_ofCoin n S30_ a0 x29_ (1 : Int32) _ g43_
      refine re_cV (pc := 170) [.int x29_, .int (1 : Int32)] m41_ (rv_okl.k ⟨rfl, rfl⟩) (rv_up.rf _ _) (by decide) (rv_ck_e g40_) ⟨by decide, rfl⟩ (Nat.le_of_ble_eq_true rfl) lVX13_271 rfl (by decide +kernel : decode cX13_day 170 = .ok (.invokevirtual 271, 3)) ?_
      refine re_iload (pc := 173) 1 (by decide +kernel : decode cX13_day 173 = .ok (.iload 5, 2)) rfl ?_
      rcases rv_if_e h with ⟨g44_, h⟩ | ⟨g44_, h⟩
      · refine re_icmp_ne_f (pc := 175) 179 (by decide +kernel : decode cX13_day 175 = .ok (.if_icmp .ne 4, 3)) (by decide) g44_ ?_
        cases h
        exact re_vret (by decide +kernel : decode cX13_day 178 = .ok (.return_, 1))
      · refine re_icmp_ne_t (pc := 175) 179 (by decide +kernel : decode cX13_day 175 = .ok (.if_icmp .ne 4, 3)) (by decide) g44_ ?_
        refine re_aloadn (pc := 179) 2 (by decide +kernel : decode cX13_day 179 = .ok (.aload_n 0, 1)) rfl ?_
        obtain ⟨a45_, g46_, h⟩ := rv_b_e h
        refine re_gR (pc := 180) g46_ lfX13_13 rfl (by decide +kernel : decode cX13_day 180 = .ok (.getfield 13, 3)) ?_
        refine re_sipush (pc := 183) (132 : Int32) (by decide +kernel : decode cX13_day 183 = .ok (.sipush 132, 3)) (by decide) ?_
        refine re_bipush (pc := 186) (6 : Int32) (by decide +kernel : decode cX13_day 186 = .ok (.bipush 6, 2)) (by decide) ?_
        refine re_iload (pc := 188) 0 (by decide +kernel : decode cX13_day 188 = .ok (.iload 6, 2)) rfl ?_
        refine re_imul (pc := 190) (by decide +kernel : decode cX13_day 190 = .ok (.imul, 1)) ?_
        refine re_iadd (pc := 191) (by decide +kernel : decode cX13_day 191 = .ok (.iadd, 1)) ?_
        refine re_iconst (pc := 192) (1 : Int32) (by decide +kernel : decode cX13_day 192 = .ok (.iconst 1, 1)) (by decide) ?_
        refine re_iadd (pc := 193) (by decide +kernel : decode cX13_day 193 = .ok (.iadd, 1)) ?_
        refine re_iload (pc := 194) 1 (by decide +kernel : decode cX13_day 194 = .ok (.iload 5, 2)) rfl ?_
        obtain ⟨S47_, g48_, h⟩ := rv_b_e h
        refine re_uI (pc := 196) g48_ (by decide +kernel : decode cX13_day 196 = .ok (.iastore, 1)) ?_
        refine re_aloadn (pc := 197) 2 (by decide +kernel : decode cX13_day 197 = .ok (.aload_n 0, 1)) rfl ?_
        refine re_dup (pc := 198) (by decide +kernel : decode cX13_day 198 = .ok (.dup, 1)) rfl ?_
        obtain ⟨x49_, g50_, h⟩ := rv_b_e h
        refine re_gI (pc := 199) g50_ lfX13_454 rfl (by decide +kernel : decode cX13_day 199 = .ok (.getfield 454, 3)) ?_
        refine re_iconst (pc := 202) (1 : Int32) (by decide +kernel : decode cX13_day 202 = .ok (.iconst 1, 1)) (by decide) ?_
        refine re_iadd (pc := 203) (by decide +kernel : decode cX13_day 203 = .ok (.iadd, 1)) ?_
        obtain ⟨S51_, g52_, h⟩ := rv_b_e h
        refine re_pI (pc := 204) g52_ lfX13_454 rfl rfl rfl rfl (by decide +kernel : decode cX13_day 204 = .ok (.putfield 454, 3)) ?_
        cases h
        exact re_vret (by decide +kernel : decode cX13_day 207 = .ok (.return_, 1))
    · refine re_if_ne_t (pc := 163) 178 (by decide +kernel : decode cX13_day 163 = .ok (.ifCond .ne 15, 3)) (by decide) g38_ ?_
      cases h
      exact re_vret (by decide +kernel : decode cX13_day 178 = .ok (.return_, 1))
  · refine re_if_ne_t (pc := 134) 207 (by decide +kernel : decode cX13_day 134 = .ok (.ifCond .ne 73, 3)) (by decide) g8_ ?_
    cases h
    exact re_vret (by decide +kernel : decode cX13_day 207 = .ok (.return_, 1))
noncomputable def cX13_day_84 (n : Nat) (S : rvS) (a0 : Nat) (x1 : Int32) (x2 : Int32) : Option rvS :=
  if x1 = 0 then (
    some S)
  else (
    (rv_ck S 11 a0).bind fun u2_ =>
    rv_bp (fnX13_draw n S a0 (16 : Int32)) fun x5_ S6_ =>
    if x5_ = 0 then (
      (rv_ck S6_ 11 a0).bind fun u10_ =>
      (fnX13_whos n S6_ a0).bind fun x13_ =>
      if (24 : Int32) ≤ x13_ then (
        cX13_day_128 n S6_ a0)
      else (
        (rv_ck S6_ 11 a0).bind fun u16_ =>
        (fnX13_ofWho n S6_ a0 x2 (0 : Int32)).bind fun x19_ =>
        (rv_ck S6_ 11 a0).bind fun u21_ =>
        rv_bp (fnX13_bear n S6_ a0 x19_) fun x24_ S25_ =>
        (rv_gI S25_ 11 a0 52).bind fun x28_ =>
        (rv_pI S25_ 11 a0 52 (x28_ + (1 : Int32))).bind fun S30_ =>
        cX13_day_128 n S30_ a0))
    else (
      cX13_day_128 n S6_ a0))
set_option maxRecDepth 20000 in
set_option maxHeartbeats 4000000 in
theorem eX13_day_84 (n : Nat) (S : rvS) (a0 : Nat) (x1 : Int32) (x2 : Int32) (S' : rvS) (h : cX13_day_84 n S a0 x1 x2 = some S') : rv_Ev mX13_day 4 84 [(0, .ref a0), (1, .int x1), (2, .int x2)] [] S none S' := by
  unfold cX13_day_84 at h
  refine re_iloadn (pc := 84) 1 (by decide +kernel : decode cX13_day 84 = .ok (.iload_n 1, 1)) rfl ?_
  rcases rv_if_e h with ⟨g1_, h⟩ | ⟨g1_, h⟩
  · refine re_if_ne_f (pc := 85) 89 (by decide +kernel : decode cX13_day 85 = .ok (.ifCond .ne 4, 3)) (by decide) g1_ ?_
    cases h
    exact re_vret (by decide +kernel : decode cX13_day 88 = .ok (.return_, 1))
  · refine re_if_ne_t (pc := 85) 89 (by decide +kernel : decode cX13_day 85 = .ok (.ifCond .ne 4, 3)) (by decide) g1_ ?_
    refine re_aloadn (pc := 89) 0 (by decide +kernel : decode cX13_day 89 = .ok (.aload_n 0, 1)) rfl ?_
    refine re_bipush (pc := 90) (16 : Int32) (by decide +kernel : decode cX13_day 90 = .ok (.bipush 16, 2)) (by decide) ?_
    obtain ⟨u2_, g3_, h⟩ := rv_b_e h
    obtain ⟨x5_, S6_, g7_, h⟩ := rv_bp_e h
    have m4_ := metX13_draw n S a0 (16 : Int32) _ _ g7_
    have z8_ : rv_same S S6_ := m4_.sh rfl
    refine re_cV (pc := 92) [.int (16 : Int32)] m4_ (rv_okl.k z8_) (rv_up.sh z8_) (by decide) (rv_ck_e g3_) ⟨by decide, rfl⟩ (Nat.le_of_ble_eq_true rfl) lVX13_439 rfl (by decide +kernel : decode cX13_day 92 = .ok (.invokevirtual 439, 3)) ?_
    rcases rv_if_e h with ⟨g9_, h⟩ | ⟨g9_, h⟩
    · refine re_if_ne_f (pc := 95) 128 (by decide +kernel : decode cX13_day 95 = .ok (.ifCond .ne 33, 3)) (by decide) g9_ ?_
      refine re_aloadn (pc := 98) 0 (by decide +kernel : decode cX13_day 98 = .ok (.aload_n 0, 1)) rfl ?_
      obtain ⟨u10_, g11_, h⟩ := rv_b_e h
      obtain ⟨x13_, g14_, h⟩ := rv_b_e h
      have m12_ := metX13_whos n S6_ a0 _ g14_
      refine re_cV (pc := 99) [] m12_ (rv_okl.k ⟨rfl, rfl⟩) (rv_up.rf _ _) (by decide) (rv_ck_e g11_) ⟨by decide, rfl⟩ (Nat.le_of_ble_eq_true rfl) lVX13_255 rfl (by decide +kernel : decode cX13_day 99 = .ok (.invokevirtual 255, 3)) ?_
      refine re_bipush (pc := 102) (24 : Int32) (by decide +kernel : decode cX13_day 102 = .ok (.bipush 24, 2)) (by decide) ?_
      rcases rv_if_e h with ⟨g15_, h⟩ | ⟨g15_, h⟩
      · refine re_icmp_ge_t (pc := 104) 128 (by decide +kernel : decode cX13_day 104 = .ok (.if_icmp .ge 24, 3)) (by decide) g15_ ?_
        refine re_sub [0] (lv1 := [(0, .ref a0)]) rfl ?_
        exact eX13_day_128 n S6_ a0 _ h
      · refine re_icmp_ge_f (pc := 104) 128 (by decide +kernel : decode cX13_day 104 = .ok (.if_icmp .ge 24, 3)) (by decide) g15_ ?_
        refine re_aloadn (pc := 107) 0 (by decide +kernel : decode cX13_day 107 = .ok (.aload_n 0, 1)) rfl ?_
        refine re_aloadn (pc := 108) 0 (by decide +kernel : decode cX13_day 108 = .ok (.aload_n 0, 1)) rfl ?_
        refine re_iloadn (pc := 109) 2 (by decide +kernel : decode cX13_day 109 = .ok (.iload_n 2, 1)) rfl ?_
        refine re_iconst (pc := 110) (0 : Int32) (by decide +kernel : decode cX13_day 110 = .ok (.iconst 0, 1)) (by decide) ?_
        obtain ⟨u16_, g17_, h⟩ := rv_b_e h
        obtain ⟨x19_, g20_, h⟩ := rv_b_e h
        have m18_ := metX13_ofWho n S6_ a0 x2 (0 : Int32) _ g20_
        refine re_cV (pc := 111) [.int x2, .int (0 : Int32)] m18_ (rv_okl.k ⟨rfl, rfl⟩) (rv_up.rf _ _) (by decide) (rv_ck_e g17_) ⟨by decide, rfl⟩ (Nat.le_of_ble_eq_true rfl) lVX13_261 rfl (by decide +kernel : decode cX13_day 111 = .ok (.invokevirtual 261, 3)) ?_
        obtain ⟨u21_, g22_, h⟩ := rv_b_e h
        obtain ⟨x24_, S25_, g26_, h⟩ := rv_bp_e h
        have m23_ := metX13_bear n S6_ a0 x19_ _ _ g26_
        have z27_ : rv_same S6_ S25_ := m23_.sh rfl
        refine re_cV (pc := 114) [.int x19_] m23_ (rv_okl.k z27_) (rv_up.sh z27_) (by decide) (rv_ck_e g22_) ⟨by decide, rfl⟩ (Nat.le_of_ble_eq_true rfl) lVX13_353 rfl (by decide +kernel : decode cX13_day 114 = .ok (.invokevirtual 353, 3)) ?_
        refine re_pop (pc := 117) (by decide +kernel : decode cX13_day 117 = .ok (.pop, 1)) rfl ?_
        refine re_aloadn (pc := 118) 0 (by decide +kernel : decode cX13_day 118 = .ok (.aload_n 0, 1)) rfl ?_
        refine re_dup (pc := 119) (by decide +kernel : decode cX13_day 119 = .ok (.dup, 1)) rfl ?_
        obtain ⟨x28_, g29_, h⟩ := rv_b_e h
        refine re_gI (pc := 120) g29_ lfX13_451 rfl (by decide +kernel : decode cX13_day 120 = .ok (.getfield 451, 3)) ?_
        refine re_iconst (pc := 123) (1 : Int32) (by decide +kernel : decode cX13_day 123 = .ok (.iconst 1, 1)) (by decide) ?_
        refine re_iadd (pc := 124) (by decide +kernel : decode cX13_day 124 = .ok (.iadd, 1)) ?_
        obtain ⟨S30_, g31_, h⟩ := rv_b_e h
        refine re_pI (pc := 125) g31_ lfX13_451 rfl rfl rfl rfl (by decide +kernel : decode cX13_day 125 = .ok (.putfield 451, 3)) ?_
        refine re_sub [0] (lv1 := [(0, .ref a0)]) rfl ?_
        exact eX13_day_128 n S30_ a0 _ h
    · refine re_if_ne_t (pc := 95) 128 (by decide +kernel : decode cX13_day 95 = .ok (.ifCond .ne 33, 3)) (by decide) g9_ ?_
      refine re_sub [0] (lv1 := [(0, .ref a0)]) rfl ?_
      exact eX13_day_128 n S6_ a0 _ h
noncomputable def fnX13_day (n : Nat) (S : rvS) (a0 : Nat) (x1 : Int32) : Option rvS :=
  (rv_ck S 11 a0).bind fun u1_ =>
  (fnX13_whos n S a0).bind fun x4_ =>
  (rv_ck S 11 a0).bind fun u6_ =>
  rv_bp (fnX13_draw n S a0 x4_) fun x9_ S10_ =>
  (rv_ck S10_ 11 a0).bind fun u13_ =>
  (fnX13_whos n S10_ a0).bind fun x16_ =>
  (rv_ck S10_ 11 a0).bind fun u18_ =>
  rv_bp (fnX13_draw n S10_ a0 x16_) fun x21_ S22_ =>
  (rv_ck S22_ 11 a0).bind fun u25_ =>
  (fnX13_ownedBy n S22_ a0 x9_ (-1 : Int32)).bind fun x28_ =>
  if x28_ ≤ 0 then (
    cX13_day_84 n S22_ a0 x1 x9_)
  else (
    (rv_ck S22_ 11 a0).bind fun u31_ =>
    rv_bp (fnX13_draw n S22_ a0 x28_) fun x34_ S35_ =>
    (rv_ck S35_ 11 a0).bind fun u38_ =>
    (fnX13_ownedBy n S35_ a0 x9_ x34_).bind fun x41_ =>
    (rv_ck S35_ 11 a0).bind fun u43_ =>
    rv_bp (fnX13_whyNot_ n S35_ a0 x41_ x21_) fun x46_ S47_ =>
    if x46_ = 0 then (
      (rv_ck S47_ 11 a0).bind fun u55_ =>
      (fnX13_goes n S47_ a0 x41_ x21_).bind fun S58_ =>
      (rv_gI S58_ 11 a0 50).bind fun x61_ =>
      (rv_pI S58_ 11 a0 50 (x61_ + (1 : Int32))).bind fun S63_ =>
      cX13_day_84 n S63_ a0 x1 x9_)
    else (
      (rv_gI S47_ 11 a0 51).bind fun x51_ =>
      (rv_pI S47_ 11 a0 51 (x51_ + (1 : Int32))).bind fun S53_ =>
      cX13_day_84 n S53_ a0 x1 x9_))
set_option maxRecDepth 20000 in
set_option maxHeartbeats 4000000 in
theorem eX13_day_in (n : Nat) (S : rvS) (a0 : Nat) (x1 : Int32) (S' : rvS) (h : fnX13_day n S a0 x1 = some S') : rv_Ev mX13_day 4 0 [(0, .ref a0), (1, .int x1)] [] S none S' := by
  unfold fnX13_day at h
  refine re_aloadn (pc := 0) 0 (by decide +kernel : decode cX13_day 0 = .ok (.aload_n 0, 1)) rfl ?_
  refine re_aloadn (pc := 1) 0 (by decide +kernel : decode cX13_day 1 = .ok (.aload_n 0, 1)) rfl ?_
  obtain ⟨u1_, g2_, h⟩ := rv_b_e h
  obtain ⟨x4_, g5_, h⟩ := rv_b_e h
  have m3_ := metX13_whos n S a0 _ g5_
  refine re_cV (pc := 2) [] m3_ (rv_okl.k ⟨rfl, rfl⟩) (rv_up.rf _ _) (by decide) (rv_ck_e g2_) ⟨by decide, rfl⟩ (Nat.le_of_ble_eq_true rfl) lVX13_255 rfl (by decide +kernel : decode cX13_day 2 = .ok (.invokevirtual 255, 3)) ?_
  obtain ⟨u6_, g7_, h⟩ := rv_b_e h
  obtain ⟨x9_, S10_, g11_, h⟩ := rv_bp_e h
  have m8_ := metX13_draw n S a0 x4_ _ _ g11_
  have z12_ : rv_same S S10_ := m8_.sh rfl
  refine re_cV (pc := 5) [.int x4_] m8_ (rv_okl.k z12_) (rv_up.sh z12_) (by decide) (rv_ck_e g7_) ⟨by decide, rfl⟩ (Nat.le_of_ble_eq_true rfl) lVX13_439 rfl (by decide +kernel : decode cX13_day 5 = .ok (.invokevirtual 439, 3)) ?_
  refine re_istoren (pc := 8) (lv1 := [(2, .int x9_), (0, .ref a0), (1, .int x1)]) (by decide +kernel : decode cX13_day 8 = .ok (.istore_n 2, 1)) rfl (by decide) rfl ?_
  refine re_aloadn (pc := 9) 1 (by decide +kernel : decode cX13_day 9 = .ok (.aload_n 0, 1)) rfl ?_
  refine re_aloadn (pc := 10) 1 (by decide +kernel : decode cX13_day 10 = .ok (.aload_n 0, 1)) rfl ?_
  obtain ⟨u13_, g14_, h⟩ := rv_b_e h
  obtain ⟨x16_, g17_, h⟩ := rv_b_e h
  have m15_ := metX13_whos n S10_ a0 _ g17_
  refine re_cV (pc := 11) [] m15_ (rv_okl.k ⟨rfl, rfl⟩) (rv_up.rf _ _) (by decide) (rv_ck_e g14_) ⟨by decide, rfl⟩ (Nat.le_of_ble_eq_true rfl) lVX13_255 rfl (by decide +kernel : decode cX13_day 11 = .ok (.invokevirtual 255, 3)) ?_
  obtain ⟨u18_, g19_, h⟩ := rv_b_e h
  obtain ⟨x21_, S22_, g23_, h⟩ := rv_bp_e h
  have m20_ := metX13_draw n S10_ a0 x16_ _ _ g23_
  have z24_ : rv_same S10_ S22_ := m20_.sh rfl
  refine re_cV (pc := 14) [.int x16_] m20_ (rv_okl.k z24_) (rv_up.sh z24_) (by decide) (rv_ck_e g19_) ⟨by decide, rfl⟩ (Nat.le_of_ble_eq_true rfl) lVX13_439 rfl (by decide +kernel : decode cX13_day 14 = .ok (.invokevirtual 439, 3)) ?_
  refine re_istoren (pc := 17) (lv1 := [(3, .int x21_), (2, .int x9_), (0, .ref a0), (1, .int x1)]) (by decide +kernel : decode cX13_day 17 = .ok (.istore_n 3, 1)) rfl (by decide) rfl ?_
  refine re_aloadn (pc := 18) 2 (by decide +kernel : decode cX13_day 18 = .ok (.aload_n 0, 1)) rfl ?_
  refine re_iloadn (pc := 19) 1 (by decide +kernel : decode cX13_day 19 = .ok (.iload_n 2, 1)) rfl ?_
  refine re_iconst (pc := 20) (-1 : Int32) (by decide +kernel : decode cX13_day 20 = .ok (.iconst (-1), 1)) (by decide) ?_
  obtain ⟨u25_, g26_, h⟩ := rv_b_e h
  obtain ⟨x28_, g29_, h⟩ := rv_b_e h
  have m27_ := metX13_ownedBy n S22_ a0 x9_ (-1 : Int32) _ g29_
  refine re_cV (pc := 21) [.int x9_, .int (-1 : Int32)] m27_ (rv_okl.k ⟨rfl, rfl⟩) (rv_up.rf _ _) (by decide) (rv_ck_e g26_) ⟨by decide, rfl⟩ (Nat.le_of_ble_eq_true rfl) lVX13_442 rfl (by decide +kernel : decode cX13_day 21 = .ok (.invokevirtual 442, 3)) ?_
  refine re_istore (pc := 24) (lv1 := [(4, .int x28_), (3, .int x21_), (2, .int x9_), (0, .ref a0), (1, .int x1)]) (by decide +kernel : decode cX13_day 24 = .ok (.istore 4, 2)) (by decide) rfl ?_
  refine re_iload (pc := 26) 0 (by decide +kernel : decode cX13_day 26 = .ok (.iload 4, 2)) rfl ?_
  rcases rv_if_e h with ⟨g30_, h⟩ | ⟨g30_, h⟩
  · refine re_if_le_t (pc := 28) 84 (by decide +kernel : decode cX13_day 28 = .ok (.ifCond .le 56, 3)) (by decide) g30_ ?_
    refine re_sub [3, 4, 2] (lv1 := [(0, .ref a0), (1, .int x1), (2, .int x9_)]) rfl ?_
    exact eX13_day_84 n S22_ a0 x1 x9_ _ h
  · refine re_if_le_f (pc := 28) 84 (by decide +kernel : decode cX13_day 28 = .ok (.ifCond .le 56, 3)) (by decide) g30_ ?_
    refine re_aloadn (pc := 31) 3 (by decide +kernel : decode cX13_day 31 = .ok (.aload_n 0, 1)) rfl ?_
    refine re_iloadn (pc := 32) 2 (by decide +kernel : decode cX13_day 32 = .ok (.iload_n 2, 1)) rfl ?_
    refine re_aloadn (pc := 33) 3 (by decide +kernel : decode cX13_day 33 = .ok (.aload_n 0, 1)) rfl ?_
    refine re_iload (pc := 34) 0 (by decide +kernel : decode cX13_day 34 = .ok (.iload 4, 2)) rfl ?_
    obtain ⟨u31_, g32_, h⟩ := rv_b_e h
    obtain ⟨x34_, S35_, g36_, h⟩ := rv_bp_e h
    have m33_ := metX13_draw n S22_ a0 x28_ _ _ g36_
    have z37_ : rv_same S22_ S35_ := m33_.sh rfl
    refine re_cV (pc := 36) [.int x28_] m33_ (rv_okl.k z37_) (rv_up.sh z37_) (by decide) (rv_ck_e g32_) ⟨by decide, rfl⟩ (Nat.le_of_ble_eq_true rfl) lVX13_439 rfl (by decide +kernel : decode cX13_day 36 = .ok (.invokevirtual 439, 3)) ?_
    obtain ⟨u38_, g39_, h⟩ := rv_b_e h
    obtain ⟨x41_, g42_, h⟩ := rv_b_e h
    have m40_ := metX13_ownedBy n S35_ a0 x9_ x34_ _ g42_
    refine re_cV (pc := 39) [.int x9_, .int x34_] m40_ (rv_okl.k ⟨rfl, rfl⟩) (rv_up.rf _ _) (by decide) (rv_ck_e g39_) ⟨by decide, rfl⟩ (Nat.le_of_ble_eq_true rfl) lVX13_442 rfl (by decide +kernel : decode cX13_day 39 = .ok (.invokevirtual 442, 3)) ?_
    refine re_istore (pc := 42) (lv1 := [(5, .int x41_), (4, .int x28_), (3, .int x21_), (2, .int x9_), (0, .ref a0), (1, .int x1)]) (by decide +kernel : decode cX13_day 42 = .ok (.istore 5, 2)) (by decide) rfl ?_
    refine re_aloadn (pc := 44) 4 (by decide +kernel : decode cX13_day 44 = .ok (.aload_n 0, 1)) rfl ?_
    refine re_iload (pc := 45) 0 (by decide +kernel : decode cX13_day 45 = .ok (.iload 5, 2)) rfl ?_
    refine re_iloadn (pc := 47) 2 (by decide +kernel : decode cX13_day 47 = .ok (.iload_n 3, 1)) rfl ?_
    obtain ⟨u43_, g44_, h⟩ := rv_b_e h
    obtain ⟨x46_, S47_, g48_, h⟩ := rv_bp_e h
    have m45_ := metX13_whyNot_ n S35_ a0 x41_ x21_ _ _ g48_
    have z49_ : rv_same S35_ S47_ := m45_.sh rfl
    refine re_cV (pc := 48) [.int x41_, .int x21_] m45_ (rv_okl.k z49_) (rv_up.sh z49_) (by decide) (rv_ck_e g44_) ⟨by decide, rfl⟩ (Nat.le_of_ble_eq_true rfl) lVX13_307 rfl (by decide +kernel : decode cX13_day 48 = .ok (.invokevirtual 307, 3)) ?_
    rcases rv_if_e h with ⟨g50_, h⟩ | ⟨g50_, h⟩
    · refine re_if_ne_f (pc := 51) 74 (by decide +kernel : decode cX13_day 51 = .ok (.ifCond .ne 23, 3)) (by decide) g50_ ?_
      refine re_aloadn (pc := 54) 4 (by decide +kernel : decode cX13_day 54 = .ok (.aload_n 0, 1)) rfl ?_
      refine re_iload (pc := 55) 0 (by decide +kernel : decode cX13_day 55 = .ok (.iload 5, 2)) rfl ?_
      refine re_iloadn (pc := 57) 2 (by decide +kernel : decode cX13_day 57 = .ok (.iload_n 3, 1)) rfl ?_
      obtain ⟨u55_, g56_, h⟩ := rv_b_e h
      obtain ⟨S58_, g59_, h⟩ := rv_b_e h
      have m57_ := metX13_goes n S47_ a0 x41_ x21_ _ g59_
      have z60_ : rv_same S47_ S58_ := m57_.sh rfl
      refine re_cV (pc := 58) [.int x41_, .int x21_] m57_ (rv_okl.k z60_) (rv_up.sh z60_) (by decide) (rv_ck_e g56_) ⟨by decide, rfl⟩ (Nat.le_of_ble_eq_true rfl) lVX13_309 rfl (by decide +kernel : decode cX13_day 58 = .ok (.invokevirtual 309, 3)) ?_
      refine re_aloadn (pc := 61) 4 (by decide +kernel : decode cX13_day 61 = .ok (.aload_n 0, 1)) rfl ?_
      refine re_dup (pc := 62) (by decide +kernel : decode cX13_day 62 = .ok (.dup, 1)) rfl ?_
      obtain ⟨x61_, g62_, h⟩ := rv_b_e h
      refine re_gI (pc := 63) g62_ lfX13_445 rfl (by decide +kernel : decode cX13_day 63 = .ok (.getfield 445, 3)) ?_
      refine re_iconst (pc := 66) (1 : Int32) (by decide +kernel : decode cX13_day 66 = .ok (.iconst 1, 1)) (by decide) ?_
      refine re_iadd (pc := 67) (by decide +kernel : decode cX13_day 67 = .ok (.iadd, 1)) ?_
      obtain ⟨S63_, g64_, h⟩ := rv_b_e h
      refine re_pI (pc := 68) g64_ lfX13_445 rfl rfl rfl rfl (by decide +kernel : decode cX13_day 68 = .ok (.putfield 445, 3)) ?_
      refine re_goto (pc := 71) 84 (by decide +kernel : decode cX13_day 71 = .ok (.goto 13, 3)) (by decide) ?_
      refine re_sub [4, 5, 3] (lv1 := [(0, .ref a0), (1, .int x1), (2, .int x9_)]) rfl ?_
      exact eX13_day_84 n S63_ a0 x1 x9_ _ h
    · refine re_if_ne_t (pc := 51) 74 (by decide +kernel : decode cX13_day 51 = .ok (.ifCond .ne 23, 3)) (by decide) g50_ ?_
      refine re_aloadn (pc := 74) 4 (by decide +kernel : decode cX13_day 74 = .ok (.aload_n 0, 1)) rfl ?_
      refine re_dup (pc := 75) (by decide +kernel : decode cX13_day 75 = .ok (.dup, 1)) rfl ?_
      obtain ⟨x51_, g52_, h⟩ := rv_b_e h
      refine re_gI (pc := 76) g52_ lfX13_448 rfl (by decide +kernel : decode cX13_day 76 = .ok (.getfield 448, 3)) ?_
      refine re_iconst (pc := 79) (1 : Int32) (by decide +kernel : decode cX13_day 79 = .ok (.iconst 1, 1)) (by decide) ?_
      refine re_iadd (pc := 80) (by decide +kernel : decode cX13_day 80 = .ok (.iadd, 1)) ?_
      obtain ⟨S53_, g54_, h⟩ := rv_b_e h
      refine re_pI (pc := 81) g54_ lfX13_448 rfl rfl rfl rfl (by decide +kernel : decode cX13_day 81 = .ok (.putfield 448, 3)) ?_
      refine re_sub [4, 5, 3] (lv1 := [(0, .ref a0), (1, .int x1), (2, .int x9_)]) rfl ?_
      exact eX13_day_84 n S53_ a0 x1 x9_ _ h
theorem metX13_day (n : Nat) (S : rvS) (a0 : Nat) (x1 : Int32) (S' : rvS) (h : fnX13_day n S a0 x1 = some S') : rv_Met yX13_day mX13_day 4 [.ref a0, .int x1] S none S' := rv_Met.of ⟨by decide +kernel, rfl, (fun z => by first | rfl | cases z), rfl⟩ (Nat.le_of_ble_eq_true rfl) rfl (eX13_day_in n S a0 x1 S' h)
noncomputable def fnX13_hasDays (n : Nat) (S : rvS) (a0 : Nat) (x1 : Int32) : Option Int32 :=
  (fnX13_isIn n S x1 (1 : Int32) (400 : Int32)).bind fun x2_ =>
  if x2_ = 0 then (
    some (0 : Int32))
  else (
    (rv_ck S 11 a0).bind fun u5_ =>
    (fnX13_whos n S a0).bind fun x8_ =>
    if x8_ ≤ 0 then (
      some (0 : Int32))
    else (
      (rv_ck S 11 a0).bind fun u11_ =>
      (fnX13_coins n S a0).bind fun x14_ =>
      if x14_ ≤ 0 then (
        some (0 : Int32))
      else (
        some (1 : Int32))))
set_option maxRecDepth 20000 in
set_option maxHeartbeats 4000000 in
theorem eX13_hasDays_in (n : Nat) (S : rvS) (a0 : Nat) (x1 : Int32) (r : Int32) (h : fnX13_hasDays n S a0 x1 = some r) : rv_Ev mX13_hasDays 1 0 [(0, .ref a0), (1, .int x1)] [] S (some (.int r)) S := by
  unfold fnX13_hasDays at h
  refine re_iloadn (pc := 0) 1 (by decide +kernel : decode cX13_hasDays 0 = .ok (.iload_n 1, 1)) rfl ?_
  refine re_iconst (pc := 1) (1 : Int32) (by decide +kernel : decode cX13_hasDays 1 = .ok (.iconst 1, 1)) (by decide) ?_
  refine re_sipush (pc := 2) (400 : Int32) (by decide +kernel : decode cX13_hasDays 2 = .ok (.sipush 400, 3)) (by decide) ?_
  obtain ⟨x2_, g3_, h⟩ := rv_b_e h
  have m1_ := metX13_isIn n S x1 (1 : Int32) (400 : Int32) _ g3_
  refine re_cS (pc := 5) [.int x1, .int (1 : Int32), .int (400 : Int32)] m1_ (rv_okl.k ⟨rfl, rfl⟩) (rv_up.rf _ _) (by decide) (Nat.le_of_ble_eq_true rfl) lSX13_170 rfl (by decide +kernel : decode cX13_hasDays 5 = .ok (.invokestatic 170, 3)) ?_
  rcases rv_if_e h with ⟨g4_, h⟩ | ⟨g4_, h⟩
  · refine re_if_eq_t (pc := 8) 29 (by decide +kernel : decode cX13_hasDays 8 = .ok (.ifCond .eq 21, 3)) (by decide) g4_ ?_
    refine re_iconst (pc := 29) (0 : Int32) (by decide +kernel : decode cX13_hasDays 29 = .ok (.iconst 0, 1)) (by decide) ?_
    cases h
    exact re_iret (fun ty hty => by cases hty; rfl) (by decide +kernel : decode cX13_hasDays 30 = .ok (.ireturn, 1))
  · refine re_if_eq_f (pc := 8) 29 (by decide +kernel : decode cX13_hasDays 8 = .ok (.ifCond .eq 21, 3)) (by decide) g4_ ?_
    refine re_aloadn (pc := 11) 0 (by decide +kernel : decode cX13_hasDays 11 = .ok (.aload_n 0, 1)) rfl ?_
    obtain ⟨u5_, g6_, h⟩ := rv_b_e h
    obtain ⟨x8_, g9_, h⟩ := rv_b_e h
    have m7_ := metX13_whos n S a0 _ g9_
    refine re_cV (pc := 12) [] m7_ (rv_okl.k ⟨rfl, rfl⟩) (rv_up.rf _ _) (by decide) (rv_ck_e g6_) ⟨by decide, rfl⟩ (Nat.le_of_ble_eq_true rfl) lVX13_255 rfl (by decide +kernel : decode cX13_hasDays 12 = .ok (.invokevirtual 255, 3)) ?_
    rcases rv_if_e h with ⟨g10_, h⟩ | ⟨g10_, h⟩
    · refine re_if_le_t (pc := 15) 29 (by decide +kernel : decode cX13_hasDays 15 = .ok (.ifCond .le 14, 3)) (by decide) g10_ ?_
      refine re_iconst (pc := 29) (0 : Int32) (by decide +kernel : decode cX13_hasDays 29 = .ok (.iconst 0, 1)) (by decide) ?_
      cases h
      exact re_iret (fun ty hty => by cases hty; rfl) (by decide +kernel : decode cX13_hasDays 30 = .ok (.ireturn, 1))
    · refine re_if_le_f (pc := 15) 29 (by decide +kernel : decode cX13_hasDays 15 = .ok (.ifCond .le 14, 3)) (by decide) g10_ ?_
      refine re_aloadn (pc := 18) 0 (by decide +kernel : decode cX13_hasDays 18 = .ok (.aload_n 0, 1)) rfl ?_
      obtain ⟨u11_, g12_, h⟩ := rv_b_e h
      obtain ⟨x14_, g15_, h⟩ := rv_b_e h
      have m13_ := metX13_coins n S a0 _ g15_
      refine re_cV (pc := 19) [] m13_ (rv_okl.k ⟨rfl, rfl⟩) (rv_up.rf _ _) (by decide) (rv_ck_e g12_) ⟨by decide, rfl⟩ (Nat.le_of_ble_eq_true rfl) lVX13_258 rfl (by decide +kernel : decode cX13_hasDays 19 = .ok (.invokevirtual 258, 3)) ?_
      rcases rv_if_e h with ⟨g16_, h⟩ | ⟨g16_, h⟩
      · refine re_if_le_t (pc := 22) 29 (by decide +kernel : decode cX13_hasDays 22 = .ok (.ifCond .le 7, 3)) (by decide) g16_ ?_
        refine re_iconst (pc := 29) (0 : Int32) (by decide +kernel : decode cX13_hasDays 29 = .ok (.iconst 0, 1)) (by decide) ?_
        cases h
        exact re_iret (fun ty hty => by cases hty; rfl) (by decide +kernel : decode cX13_hasDays 30 = .ok (.ireturn, 1))
      · refine re_if_le_f (pc := 22) 29 (by decide +kernel : decode cX13_hasDays 22 = .ok (.ifCond .le 7, 3)) (by decide) g16_ ?_
        refine re_iconst (pc := 25) (1 : Int32) (by decide +kernel : decode cX13_hasDays 25 = .ok (.iconst 1, 1)) (by decide) ?_
        refine re_goto (pc := 26) 30 (by decide +kernel : decode cX13_hasDays 26 = .ok (.goto 4, 3)) (by decide) ?_
        cases h
        exact re_iret (fun ty hty => by cases hty; rfl) (by decide +kernel : decode cX13_hasDays 30 = .ok (.ireturn, 1))
theorem metX13_hasDays (n : Nat) (S : rvS) (a0 : Nat) (x1 : Int32) (r : Int32) (h : fnX13_hasDays n S a0 x1 = some r) : rv_Met yX13_hasDays mX13_hasDays 1 [.ref a0, .int x1] S (some (.int r)) S := rv_Met.of ⟨by decide +kernel, rfl, (fun z => by first | rfl | cases z), rfl⟩ (Nat.le_of_ble_eq_true rfl) rfl (eX13_hasDays_in n S a0 x1 r h)
noncomputable def cX13_days_62 (n : Nat) (S : rvS) (a0 : Nat) : Option (Int32 × rvS) :=
  (rv_gR S 11 a0 54).bind fun a1_ =>
  (rv_gI S 11 a0 51).bind fun x3_ =>
  (rv_uI S a1_ (0 : Int32) x3_).bind fun S5_ =>
  (rv_gR S5_ 11 a0 54).bind fun a7_ =>
  (rv_gI S5_ 11 a0 52).bind fun x9_ =>
  (rv_uI S5_ a7_ (1 : Int32) x9_).bind fun S11_ =>
  (rv_gR S11_ 11 a0 54).bind fun a13_ =>
  (rv_gI S11_ 11 a0 53).bind fun x15_ =>
  (rv_uI S11_ a13_ (2 : Int32) x15_).bind fun S17_ =>
  (rv_gI S17_ 11 a0 50).bind fun x19_ =>
  some (x19_, S17_)
set_option maxRecDepth 20000 in
set_option maxHeartbeats 4000000 in
theorem eX13_days_62 (n : Nat) (S : rvS) (a0 : Nat) (r : Int32) (S' : rvS) (h : cX13_days_62 n S a0 = some (r, S')) : rv_Ev mX13_days 5 62 [(0, .ref a0)] [] S (some (.int r)) S' := by
  unfold cX13_days_62 at h
  refine re_aloadn (pc := 62) 0 (by decide +kernel : decode cX13_days 62 = .ok (.aload_n 0, 1)) rfl ?_
  obtain ⟨a1_, g2_, h⟩ := rv_b_e h
  refine re_gR (pc := 63) g2_ lfX13_93 rfl (by decide +kernel : decode cX13_days 63 = .ok (.getfield 93, 3)) ?_
  refine re_iconst (pc := 66) (0 : Int32) (by decide +kernel : decode cX13_days 66 = .ok (.iconst 0, 1)) (by decide) ?_
  refine re_aloadn (pc := 67) 0 (by decide +kernel : decode cX13_days 67 = .ok (.aload_n 0, 1)) rfl ?_
  obtain ⟨x3_, g4_, h⟩ := rv_b_e h
  refine re_gI (pc := 68) g4_ lfX13_448 rfl (by decide +kernel : decode cX13_days 68 = .ok (.getfield 448, 3)) ?_
  obtain ⟨S5_, g6_, h⟩ := rv_b_e h
  refine re_uI (pc := 71) g6_ (by decide +kernel : decode cX13_days 71 = .ok (.iastore, 1)) ?_
  refine re_aloadn (pc := 72) 0 (by decide +kernel : decode cX13_days 72 = .ok (.aload_n 0, 1)) rfl ?_
  obtain ⟨a7_, g8_, h⟩ := rv_b_e h
  refine re_gR (pc := 73) g8_ lfX13_93 rfl (by decide +kernel : decode cX13_days 73 = .ok (.getfield 93, 3)) ?_
  refine re_iconst (pc := 76) (1 : Int32) (by decide +kernel : decode cX13_days 76 = .ok (.iconst 1, 1)) (by decide) ?_
  refine re_aloadn (pc := 77) 0 (by decide +kernel : decode cX13_days 77 = .ok (.aload_n 0, 1)) rfl ?_
  obtain ⟨x9_, g10_, h⟩ := rv_b_e h
  refine re_gI (pc := 78) g10_ lfX13_451 rfl (by decide +kernel : decode cX13_days 78 = .ok (.getfield 451, 3)) ?_
  obtain ⟨S11_, g12_, h⟩ := rv_b_e h
  refine re_uI (pc := 81) g12_ (by decide +kernel : decode cX13_days 81 = .ok (.iastore, 1)) ?_
  refine re_aloadn (pc := 82) 0 (by decide +kernel : decode cX13_days 82 = .ok (.aload_n 0, 1)) rfl ?_
  obtain ⟨a13_, g14_, h⟩ := rv_b_e h
  refine re_gR (pc := 83) g14_ lfX13_93 rfl (by decide +kernel : decode cX13_days 83 = .ok (.getfield 93, 3)) ?_
  refine re_iconst (pc := 86) (2 : Int32) (by decide +kernel : decode cX13_days 86 = .ok (.iconst 2, 1)) (by decide) ?_
  refine re_aloadn (pc := 87) 0 (by decide +kernel : decode cX13_days 87 = .ok (.aload_n 0, 1)) rfl ?_
  obtain ⟨x15_, g16_, h⟩ := rv_b_e h
  refine re_gI (pc := 88) g16_ lfX13_454 rfl (by decide +kernel : decode cX13_days 88 = .ok (.getfield 454, 3)) ?_
  obtain ⟨S17_, g18_, h⟩ := rv_b_e h
  refine re_uI (pc := 91) g18_ (by decide +kernel : decode cX13_days 91 = .ok (.iastore, 1)) ?_
  refine re_aloadn (pc := 92) 0 (by decide +kernel : decode cX13_days 92 = .ok (.aload_n 0, 1)) rfl ?_
  obtain ⟨x19_, g20_, h⟩ := rv_b_e h
  refine re_gI (pc := 93) g20_ lfX13_445 rfl (by decide +kernel : decode cX13_days 93 = .ok (.getfield 445, 3)) ?_
  cases h
  exact re_iret (fun ty hty => by cases hty; rfl) (by decide +kernel : decode cX13_days 96 = .ok (.ireturn, 1))
noncomputable def cX13_days_46 (n : Nat) : Nat → rvS → Nat → Int32 → Int32 → Option (Int32 × rvS)
  | 0, _, _, _, _ => none
  | k + 1, S, a0, x1, x3 =>
    if x1 ≤ x3 then (
      cX13_days_62 n S a0)
    else (
      (rv_ck S 11 a0).bind fun u2_ =>
      (fnX13_day n S a0 (1 : Int32)).bind fun S5_ =>
      rv_lt (x3 + (1)) fun x8_ =>
      cX13_days_46 n k S5_ a0 x1 x8_)
set_option maxRecDepth 20000 in
set_option maxHeartbeats 4000000 in
theorem eX13_days_46 (n : Nat) : ∀ (k : Nat) (S : rvS) (a0 : Nat) (x1 : Int32) (x3 : Int32) (r : Int32) (S' : rvS), cX13_days_46 n k S a0 x1 x3 = some (r, S') → rv_Ev mX13_days 5 46 [(0, .ref a0), (1, .int x1), (3, .int x3)] [] S (some (.int r)) S' := by
  intro k
  induction k with
  | zero => intro S a0 x1 x3 r S' h; exact absurd h (by simp [cX13_days_46])
  | succ k ih =>
    intro S a0 x1 x3 r S' h
    unfold cX13_days_46 at h
    refine re_iloadn (pc := 46) 2 (by decide +kernel : decode cX13_days 46 = .ok (.iload_n 3, 1)) rfl ?_
    refine re_iloadn (pc := 47) 1 (by decide +kernel : decode cX13_days 47 = .ok (.iload_n 1, 1)) rfl ?_
    rcases rv_if_e h with ⟨g1_, h⟩ | ⟨g1_, h⟩
    · refine re_icmp_ge_t (pc := 48) 62 (by decide +kernel : decode cX13_days 48 = .ok (.if_icmp .ge 14, 3)) (by decide) g1_ ?_
      refine re_sub [0] (lv1 := [(0, .ref a0)]) rfl ?_
      exact eX13_days_62 n S a0 _ _ h
    · refine re_icmp_ge_f (pc := 48) 62 (by decide +kernel : decode cX13_days 48 = .ok (.if_icmp .ge 14, 3)) (by decide) g1_ ?_
      refine re_aloadn (pc := 51) 0 (by decide +kernel : decode cX13_days 51 = .ok (.aload_n 0, 1)) rfl ?_
      refine re_iconst (pc := 52) (1 : Int32) (by decide +kernel : decode cX13_days 52 = .ok (.iconst 1, 1)) (by decide) ?_
      obtain ⟨u2_, g3_, h⟩ := rv_b_e h
      obtain ⟨S5_, g6_, h⟩ := rv_b_e h
      have m4_ := metX13_day n S a0 (1 : Int32) _ g6_
      have z7_ : rv_same S S5_ := m4_.sh rfl
      refine re_cV (pc := 53) [.int (1 : Int32)] m4_ (rv_okl.k z7_) (rv_up.sh z7_) (by decide) (rv_ck_e g3_) ⟨by decide, rfl⟩ (Nat.le_of_ble_eq_true rfl) lVX13_460 rfl (by decide +kernel : decode cX13_days 53 = .ok (.invokevirtual 460, 3)) ?_
      obtain ⟨x8_, g9_, h⟩ := rv_lt_e h
      refine re_iinc (pc := 56) 2 x8_ (lv1 := [(3, .int x8_), (0, .ref a0), (1, .int x1)]) (by decide +kernel : decode cX13_days 56 = .ok (.iinc 3 1, 3)) rfl g9_ (by decide) rfl ?_
      refine re_goto (pc := 59) 46 (by decide +kernel : decode cX13_days 59 = .ok (.goto (-13), 3)) (by decide) ?_
      refine re_sub [1, 2, 0] (lv1 := [(0, .ref a0), (1, .int x1), (3, .int x8_)]) rfl ?_
      exact ih S5_ a0 x1 x8_ _ _ h
noncomputable def fnX13_days (n : Nat) (S : rvS) (a0 : Nat) (x1 : Int32) (x2 : Int32) : Option (Int32 × rvS) :=
  (rv_pI S 11 a0 0 (0 : Int32)).bind fun S1_ =>
  (rv_ck S1_ 11 a0).bind fun u3_ =>
  (fnX13_lay n S1_ a0).bind fun S6_ =>
  (rv_ck S6_ 11 a0).bind fun u9_ =>
  (fnX13_hasDays n S6_ a0 x1).bind fun x12_ =>
  if x12_ = 0 then (
    some ((-1 : Int32), S6_))
  else (
    (rv_pI S6_ 11 a0 49 x2).bind fun S15_ =>
    (rv_pI S15_ 11 a0 50 (0 : Int32)).bind fun S17_ =>
    (rv_pI S17_ 11 a0 51 (0 : Int32)).bind fun S19_ =>
    (rv_pI S19_ 11 a0 52 (0 : Int32)).bind fun S21_ =>
    (rv_pI S21_ 11 a0 53 (0 : Int32)).bind fun S23_ =>
    cX13_days_46 n n S23_ a0 x1 (0 : Int32))
set_option maxRecDepth 20000 in
set_option maxHeartbeats 4000000 in
theorem eX13_days_in (n : Nat) (S : rvS) (a0 : Nat) (x1 : Int32) (x2 : Int32) (r : Int32) (S' : rvS) (h : fnX13_days n S a0 x1 x2 = some (r, S')) : rv_Ev mX13_days 5 0 [(0, .ref a0), (1, .int x1), (2, .int x2)] [] S (some (.int r)) S' := by
  unfold fnX13_days at h
  refine re_aloadn (pc := 0) 0 (by decide +kernel : decode cX13_days 0 = .ok (.aload_n 0, 1)) rfl ?_
  refine re_iconst (pc := 1) (0 : Int32) (by decide +kernel : decode cX13_days 1 = .ok (.iconst 0, 1)) (by decide) ?_
  obtain ⟨S1_, g2_, h⟩ := rv_b_e h
  refine re_pI (pc := 2) g2_ lfX13_99 rfl rfl rfl rfl (by decide +kernel : decode cX13_days 2 = .ok (.putfield 99, 3)) ?_
  refine re_aloadn (pc := 5) 0 (by decide +kernel : decode cX13_days 5 = .ok (.aload_n 0, 1)) rfl ?_
  obtain ⟨u3_, g4_, h⟩ := rv_b_e h
  obtain ⟨S6_, g7_, h⟩ := rv_b_e h
  have m5_ := metX13_lay n S1_ a0 _ g7_
  have z8_ : rv_same S1_ S6_ := m5_.sh rfl
  refine re_cV (pc := 6) [] m5_ (rv_okl.k z8_) (rv_up.sh z8_) (by decide) (rv_ck_e g4_) ⟨by decide, rfl⟩ (Nat.le_of_ble_eq_true rfl) lVX13_187 rfl (by decide +kernel : decode cX13_days 6 = .ok (.invokevirtual 187, 3)) ?_
  refine re_aloadn (pc := 9) 0 (by decide +kernel : decode cX13_days 9 = .ok (.aload_n 0, 1)) rfl ?_
  refine re_iloadn (pc := 10) 1 (by decide +kernel : decode cX13_days 10 = .ok (.iload_n 1, 1)) rfl ?_
  obtain ⟨u9_, g10_, h⟩ := rv_b_e h
  obtain ⟨x12_, g13_, h⟩ := rv_b_e h
  have m11_ := metX13_hasDays n S6_ a0 x1 _ g13_
  refine re_cV (pc := 11) [.int x1] m11_ (rv_okl.k ⟨rfl, rfl⟩) (rv_up.rf _ _) (by decide) (rv_ck_e g10_) ⟨by decide, rfl⟩ (Nat.le_of_ble_eq_true rfl) lVX13_457 rfl (by decide +kernel : decode cX13_days 11 = .ok (.invokevirtual 457, 3)) ?_
  rcases rv_if_e h with ⟨g14_, h⟩ | ⟨g14_, h⟩
  · refine re_if_ne_f (pc := 14) 19 (by decide +kernel : decode cX13_days 14 = .ok (.ifCond .ne 5, 3)) (by decide) g14_ ?_
    refine re_iconst (pc := 17) (-1 : Int32) (by decide +kernel : decode cX13_days 17 = .ok (.iconst (-1), 1)) (by decide) ?_
    cases h
    exact re_iret (fun ty hty => by cases hty; rfl) (by decide +kernel : decode cX13_days 18 = .ok (.ireturn, 1))
  · refine re_if_ne_t (pc := 14) 19 (by decide +kernel : decode cX13_days 14 = .ok (.ifCond .ne 5, 3)) (by decide) g14_ ?_
    refine re_aloadn (pc := 19) 0 (by decide +kernel : decode cX13_days 19 = .ok (.aload_n 0, 1)) rfl ?_
    refine re_iloadn (pc := 20) 2 (by decide +kernel : decode cX13_days 20 = .ok (.iload_n 2, 1)) rfl ?_
    obtain ⟨S15_, g16_, h⟩ := rv_b_e h
    refine re_pI (pc := 21) g16_ lfX13_435 rfl rfl rfl rfl (by decide +kernel : decode cX13_days 21 = .ok (.putfield 435, 3)) ?_
    refine re_aloadn (pc := 24) 0 (by decide +kernel : decode cX13_days 24 = .ok (.aload_n 0, 1)) rfl ?_
    refine re_iconst (pc := 25) (0 : Int32) (by decide +kernel : decode cX13_days 25 = .ok (.iconst 0, 1)) (by decide) ?_
    obtain ⟨S17_, g18_, h⟩ := rv_b_e h
    refine re_pI (pc := 26) g18_ lfX13_445 rfl rfl rfl rfl (by decide +kernel : decode cX13_days 26 = .ok (.putfield 445, 3)) ?_
    refine re_aloadn (pc := 29) 0 (by decide +kernel : decode cX13_days 29 = .ok (.aload_n 0, 1)) rfl ?_
    refine re_iconst (pc := 30) (0 : Int32) (by decide +kernel : decode cX13_days 30 = .ok (.iconst 0, 1)) (by decide) ?_
    obtain ⟨S19_, g20_, h⟩ := rv_b_e h
    refine re_pI (pc := 31) g20_ lfX13_448 rfl rfl rfl rfl (by decide +kernel : decode cX13_days 31 = .ok (.putfield 448, 3)) ?_
    refine re_aloadn (pc := 34) 0 (by decide +kernel : decode cX13_days 34 = .ok (.aload_n 0, 1)) rfl ?_
    refine re_iconst (pc := 35) (0 : Int32) (by decide +kernel : decode cX13_days 35 = .ok (.iconst 0, 1)) (by decide) ?_
    obtain ⟨S21_, g22_, h⟩ := rv_b_e h
    refine re_pI (pc := 36) g22_ lfX13_451 rfl rfl rfl rfl (by decide +kernel : decode cX13_days 36 = .ok (.putfield 451, 3)) ?_
    refine re_aloadn (pc := 39) 0 (by decide +kernel : decode cX13_days 39 = .ok (.aload_n 0, 1)) rfl ?_
    refine re_iconst (pc := 40) (0 : Int32) (by decide +kernel : decode cX13_days 40 = .ok (.iconst 0, 1)) (by decide) ?_
    obtain ⟨S23_, g24_, h⟩ := rv_b_e h
    refine re_pI (pc := 41) g24_ lfX13_454 rfl rfl rfl rfl (by decide +kernel : decode cX13_days 41 = .ok (.putfield 454, 3)) ?_
    refine re_iconst (pc := 44) (0 : Int32) (by decide +kernel : decode cX13_days 44 = .ok (.iconst 0, 1)) (by decide) ?_
    refine re_istoren (pc := 45) (lv1 := [(3, .int (0 : Int32)), (0, .ref a0), (1, .int x1), (2, .int x2)]) (by decide +kernel : decode cX13_days 45 = .ok (.istore_n 3, 1)) rfl (by decide) rfl ?_
    refine re_sub [1, 2, 0] (lv1 := [(0, .ref a0), (1, .int x1), (3, .int (0 : Int32))]) rfl ?_
    exact eX13_days_46 n n S23_ a0 x1 (0 : Int32) _ _ h
theorem metX13_days (n : Nat) (S : rvS) (a0 : Nat) (x1 : Int32) (x2 : Int32) (r : Int32) (S' : rvS) (h : fnX13_days n S a0 x1 x2 = some (r, S')) : rv_Met yX13_days mX13_days 5 [.ref a0, .int x1, .int x2] S (some (.int r)) S' := rv_Met.of ⟨by decide +kernel, rfl, (fun z => by first | rfl | cases z), rfl⟩ (Nat.le_of_ble_eq_true rfl) rfl (eX13_days_in n S a0 x1 x2 r S' h)
noncomputable def fnX13_drawn (n : Nat) (S : rvS) (a0 : Nat) (x1 : Int32) : Option (Int32 × rvS) :=
  (rv_pI S 11 a0 0 (0 : Int32)).bind fun S1_ =>
  (fnX13_isIn n S1_ x1 (0 : Int32) (2 : Int32)).bind fun x4_ =>
  if x4_ = 0 then (
    some ((-1 : Int32), S1_))
  else (
    (rv_gR S1_ 11 a0 54).bind fun a7_ =>
    (rv_aI S1_ 0 a7_ x1).bind fun x9_ =>
    some (x9_, S1_))
set_option maxRecDepth 20000 in
set_option maxHeartbeats 4000000 in
theorem eX13_drawn_in (n : Nat) (S : rvS) (a0 : Nat) (x1 : Int32) (r : Int32) (S' : rvS) (h : fnX13_drawn n S a0 x1 = some (r, S')) : rv_Ev mX13_drawn 1 0 [(0, .ref a0), (1, .int x1)] [] S (some (.int r)) S' := by
  unfold fnX13_drawn at h
  refine re_aloadn (pc := 0) 0 (by decide +kernel : decode cX13_drawn 0 = .ok (.aload_n 0, 1)) rfl ?_
  refine re_iconst (pc := 1) (0 : Int32) (by decide +kernel : decode cX13_drawn 1 = .ok (.iconst 0, 1)) (by decide) ?_
  obtain ⟨S1_, g2_, h⟩ := rv_b_e h
  refine re_pI (pc := 2) g2_ lfX13_99 rfl rfl rfl rfl (by decide +kernel : decode cX13_drawn 2 = .ok (.putfield 99, 3)) ?_
  refine re_iloadn (pc := 5) 1 (by decide +kernel : decode cX13_drawn 5 = .ok (.iload_n 1, 1)) rfl ?_
  refine re_iconst (pc := 6) (0 : Int32) (by decide +kernel : decode cX13_drawn 6 = .ok (.iconst 0, 1)) (by decide) ?_
  refine re_iconst (pc := 7) (2 : Int32) (by decide +kernel : decode cX13_drawn 7 = .ok (.iconst 2, 1)) (by decide) ?_
  obtain ⟨x4_, g5_, h⟩ := rv_b_e h
  have m3_ := metX13_isIn n S1_ x1 (0 : Int32) (2 : Int32) _ g5_
  refine re_cS (pc := 8) [.int x1, .int (0 : Int32), .int (2 : Int32)] m3_ (rv_okl.k ⟨rfl, rfl⟩) (rv_up.rf _ _) (by decide) (Nat.le_of_ble_eq_true rfl) lSX13_170 rfl (by decide +kernel : decode cX13_drawn 8 = .ok (.invokestatic 170, 3)) ?_
  rcases rv_if_e h with ⟨g6_, h⟩ | ⟨g6_, h⟩
  · refine re_if_eq_t (pc := 11) 23 (by decide +kernel : decode cX13_drawn 11 = .ok (.ifCond .eq 12, 3)) (by decide) g6_ ?_
    refine re_iconst (pc := 23) (-1 : Int32) (by decide +kernel : decode cX13_drawn 23 = .ok (.iconst (-1), 1)) (by decide) ?_
    cases h
    exact re_iret (fun ty hty => by cases hty; rfl) (by decide +kernel : decode cX13_drawn 24 = .ok (.ireturn, 1))
  · refine re_if_eq_f (pc := 11) 23 (by decide +kernel : decode cX13_drawn 11 = .ok (.ifCond .eq 12, 3)) (by decide) g6_ ?_
    refine re_aloadn (pc := 14) 0 (by decide +kernel : decode cX13_drawn 14 = .ok (.aload_n 0, 1)) rfl ?_
    obtain ⟨a7_, g8_, h⟩ := rv_b_e h
    refine re_gR (pc := 15) g8_ lfX13_93 rfl (by decide +kernel : decode cX13_drawn 15 = .ok (.getfield 93, 3)) ?_
    refine re_iloadn (pc := 18) 1 (by decide +kernel : decode cX13_drawn 18 = .ok (.iload_n 1, 1)) rfl ?_
    obtain ⟨x9_, g10_, h⟩ := rv_b_e h
    refine re_aI (pc := 19) g10_ (by decide +kernel : decode cX13_drawn 19 = .ok (.iaload, 1)) ?_
    refine re_goto (pc := 20) 24 (by decide +kernel : decode cX13_drawn 20 = .ok (.goto 4, 3)) (by decide) ?_
    cases h
    exact re_iret (fun ty hty => by cases hty; rfl) (by decide +kernel : decode cX13_drawn 24 = .ok (.ireturn, 1))
theorem metX13_drawn (n : Nat) (S : rvS) (a0 : Nat) (x1 : Int32) (r : Int32) (S' : rvS) (h : fnX13_drawn n S a0 x1 = some (r, S')) : rv_Met yX13_drawn mX13_drawn 1 [.ref a0, .int x1] S (some (.int r)) S' := rv_Met.of ⟨by decide +kernel, rfl, (fun z => by first | rfl | cases z), rfl⟩ (Nat.le_of_ble_eq_true rfl) rfl (eX13_drawn_in n S a0 x1 r S' h)
noncomputable def cX13_trade_115 (n : Nat) (S : rvS) (a0 : Nat) : Option (Int32 × rvS) :=
  (rv_ck S 11 a0).bind fun u1_ =>
  (fnX13_layBack n S a0).bind fun S4_ =>
  (rv_gI S4_ 11 a0 50).bind fun x7_ =>
  some (x7_, S4_)
set_option maxRecDepth 20000 in
set_option maxHeartbeats 4000000 in
theorem eX13_trade_115 (n : Nat) (S : rvS) (a0 : Nat) (r : Int32) (S' : rvS) (h : cX13_trade_115 n S a0 = some (r, S')) : rv_Ev mX13_trade 5 115 [(0, .ref a0)] [] S (some (.int r)) S' := by
  unfold cX13_trade_115 at h
  refine re_aloadn (pc := 115) 0 (by decide +kernel : decode cX13_trade 115 = .ok (.aload_n 0, 1)) rfl ?_
  obtain ⟨u1_, g2_, h⟩ := rv_b_e h
  obtain ⟨S4_, g5_, h⟩ := rv_b_e h
  have m3_ := metX13_layBack n S a0 _ g5_
  have z6_ : rv_same S S4_ := m3_.sh rfl
  refine re_cV (pc := 116) [] m3_ (rv_okl.k z6_) (rv_up.sh z6_) (by decide) (rv_ck_e g2_) ⟨by decide, rfl⟩ (Nat.le_of_ble_eq_true rfl) lVX13_411 rfl (by decide +kernel : decode cX13_trade 116 = .ok (.invokevirtual 411, 3)) ?_
  refine re_aloadn (pc := 119) 0 (by decide +kernel : decode cX13_trade 119 = .ok (.aload_n 0, 1)) rfl ?_
  obtain ⟨x7_, g8_, h⟩ := rv_b_e h
  refine re_gI (pc := 120) g8_ lfX13_445 rfl (by decide +kernel : decode cX13_trade 120 = .ok (.getfield 445, 3)) ?_
  cases h
  exact re_iret (fun ty hty => by cases hty; rfl) (by decide +kernel : decode cX13_trade 123 = .ok (.ireturn, 1))
noncomputable def cX13_trade_98 (n : Nat) : Nat → rvS → Nat → Int32 → Int32 → Option (Int32 × rvS)
  | 0, _, _, _, _ => none
  | k + 1, S, a0, x2, x4 =>
    if x2 ≤ x4 then (
      cX13_trade_115 n S a0)
    else (
      (rv_ck S 11 a0).bind fun u2_ =>
      (fnX13_day n S a0 (0 : Int32)).bind fun S5_ =>
      rv_lt (x4 + (1)) fun x8_ =>
      cX13_trade_98 n k S5_ a0 x2 x8_)
set_option maxRecDepth 20000 in
set_option maxHeartbeats 4000000 in
theorem eX13_trade_98 (n : Nat) : ∀ (k : Nat) (S : rvS) (a0 : Nat) (x2 : Int32) (x4 : Int32) (r : Int32) (S' : rvS), cX13_trade_98 n k S a0 x2 x4 = some (r, S') → rv_Ev mX13_trade 5 98 [(0, .ref a0), (2, .int x2), (4, .int x4)] [] S (some (.int r)) S' := by
  intro k
  induction k with
  | zero => intro S a0 x2 x4 r S' h; exact absurd h (by simp [cX13_trade_98])
  | succ k ih =>
    intro S a0 x2 x4 r S' h
    unfold cX13_trade_98 at h
    refine re_iload (pc := 98) 2 (by decide +kernel : decode cX13_trade 98 = .ok (.iload 4, 2)) rfl ?_
    refine re_iloadn (pc := 100) 1 (by decide +kernel : decode cX13_trade 100 = .ok (.iload_n 2, 1)) rfl ?_
    rcases rv_if_e h with ⟨g1_, h⟩ | ⟨g1_, h⟩
    · refine re_icmp_ge_t (pc := 101) 115 (by decide +kernel : decode cX13_trade 101 = .ok (.if_icmp .ge 14, 3)) (by decide) g1_ ?_
      refine re_sub [0] (lv1 := [(0, .ref a0)]) rfl ?_
      exact eX13_trade_115 n S a0 _ _ h
    · refine re_icmp_ge_f (pc := 101) 115 (by decide +kernel : decode cX13_trade 101 = .ok (.if_icmp .ge 14, 3)) (by decide) g1_ ?_
      refine re_aloadn (pc := 104) 0 (by decide +kernel : decode cX13_trade 104 = .ok (.aload_n 0, 1)) rfl ?_
      refine re_iconst (pc := 105) (0 : Int32) (by decide +kernel : decode cX13_trade 105 = .ok (.iconst 0, 1)) (by decide) ?_
      obtain ⟨u2_, g3_, h⟩ := rv_b_e h
      obtain ⟨S5_, g6_, h⟩ := rv_b_e h
      have m4_ := metX13_day n S a0 (0 : Int32) _ g6_
      have z7_ : rv_same S S5_ := m4_.sh rfl
      refine re_cV (pc := 106) [.int (0 : Int32)] m4_ (rv_okl.k z7_) (rv_up.sh z7_) (by decide) (rv_ck_e g3_) ⟨by decide, rfl⟩ (Nat.le_of_ble_eq_true rfl) lVX13_460 rfl (by decide +kernel : decode cX13_trade 106 = .ok (.invokevirtual 460, 3)) ?_
      obtain ⟨x8_, g9_, h⟩ := rv_lt_e h
      refine re_iinc (pc := 109) 2 x8_ (lv1 := [(4, .int x8_), (0, .ref a0), (2, .int x2)]) (by decide +kernel : decode cX13_trade 109 = .ok (.iinc 4 1, 3)) rfl g9_ (by decide) rfl ?_
      refine re_goto (pc := 112) 98 (by decide +kernel : decode cX13_trade 112 = .ok (.goto (-14), 3)) (by decide) ?_
      refine re_sub [1, 2, 0] (lv1 := [(0, .ref a0), (2, .int x2), (4, .int x8_)]) rfl ?_
      exact ih S5_ a0 x2 x8_ _ _ h
noncomputable def cX13_trade_85 (n : Nat) (S : rvS) (a0 : Nat) (x2 : Int32) (x3 : Int32) : Option (Int32 × rvS) :=
  (rv_pI S 11 a0 49 x3).bind fun S1_ =>
  (rv_pI S1_ 11 a0 50 (0 : Int32)).bind fun S3_ =>
  cX13_trade_98 n n S3_ a0 x2 (0 : Int32)
set_option maxRecDepth 20000 in
set_option maxHeartbeats 4000000 in
theorem eX13_trade_85 (n : Nat) (S : rvS) (a0 : Nat) (x2 : Int32) (x3 : Int32) (r : Int32) (S' : rvS) (h : cX13_trade_85 n S a0 x2 x3 = some (r, S')) : rv_Ev mX13_trade 5 85 [(0, .ref a0), (2, .int x2), (3, .int x3)] [] S (some (.int r)) S' := by
  unfold cX13_trade_85 at h
  refine re_aloadn (pc := 85) 0 (by decide +kernel : decode cX13_trade 85 = .ok (.aload_n 0, 1)) rfl ?_
  refine re_iloadn (pc := 86) 2 (by decide +kernel : decode cX13_trade 86 = .ok (.iload_n 3, 1)) rfl ?_
  obtain ⟨S1_, g2_, h⟩ := rv_b_e h
  refine re_pI (pc := 87) g2_ lfX13_435 rfl rfl rfl rfl (by decide +kernel : decode cX13_trade 87 = .ok (.putfield 435, 3)) ?_
  refine re_aloadn (pc := 90) 0 (by decide +kernel : decode cX13_trade 90 = .ok (.aload_n 0, 1)) rfl ?_
  refine re_iconst (pc := 91) (0 : Int32) (by decide +kernel : decode cX13_trade 91 = .ok (.iconst 0, 1)) (by decide) ?_
  obtain ⟨S3_, g4_, h⟩ := rv_b_e h
  refine re_pI (pc := 92) g4_ lfX13_445 rfl rfl rfl rfl (by decide +kernel : decode cX13_trade 92 = .ok (.putfield 445, 3)) ?_
  refine re_iconst (pc := 95) (0 : Int32) (by decide +kernel : decode cX13_trade 95 = .ok (.iconst 0, 1)) (by decide) ?_
  refine re_istore (pc := 96) (lv1 := [(4, .int (0 : Int32)), (0, .ref a0), (2, .int x2), (3, .int x3)]) (by decide +kernel : decode cX13_trade 96 = .ok (.istore 4, 2)) (by decide) rfl ?_
  refine re_sub [1, 2, 0] (lv1 := [(0, .ref a0), (2, .int x2), (4, .int (0 : Int32))]) rfl ?_
  exact eX13_trade_98 n n S3_ a0 x2 (0 : Int32) _ _ h
noncomputable def cX13_trade_42 (n : Nat) : Nat → rvS → Nat → Int32 → Int32 → Int32 → Int32 → Option (Int32 × rvS)
  | 0, _, _, _, _, _, _ => none
  | k + 1, S, a0, x1, x2, x3, x4 =>
    (rv_ck S 11 a0).bind fun u1_ =>
    (fnX13_coins n S a0).bind fun x4_ =>
    if x4_ ≤ x4 then (
      cX13_trade_85 n S a0 x2 x3)
    else (
      (rv_ck S 11 a0).bind fun u7_ =>
      (fnX13_ofCoin n S a0 x4 (2 : Int32)).bind fun x10_ =>
      if x10_ ≤ x1 then (
        rv_lt (x4 + (1)) fun x13_ =>
        cX13_trade_42 n k S a0 x1 x2 x3 x13_)
      else (
        (rv_gR S 11 a0 14).bind fun a15_ =>
        (rv_uI S a15_ (((132 : Int32) + ((6 : Int32) * x4)) + (2 : Int32)) x1).bind fun S17_ =>
        rv_lt (x4 + (1)) fun x19_ =>
        cX13_trade_42 n k S17_ a0 x1 x2 x3 x19_))
set_option maxRecDepth 20000 in
set_option maxHeartbeats 4000000 in
theorem eX13_trade_42 (n : Nat) : ∀ (k : Nat) (S : rvS) (a0 : Nat) (x1 : Int32) (x2 : Int32) (x3 : Int32) (x4 : Int32) (r : Int32) (S' : rvS), cX13_trade_42 n k S a0 x1 x2 x3 x4 = some (r, S') → rv_Ev mX13_trade 5 42 [(0, .ref a0), (1, .int x1), (2, .int x2), (3, .int x3), (4, .int x4)] [] S (some (.int r)) S' := by
  intro k
  induction k with
  | zero => intro S a0 x1 x2 x3 x4 r S' h; exact absurd h (by simp [cX13_trade_42])
  | succ k ih =>
    intro S a0 x1 x2 x3 x4 r S' h
    unfold cX13_trade_42 at h
    refine re_iload (pc := 42) 4 (by decide +kernel : decode cX13_trade 42 = .ok (.iload 4, 2)) rfl ?_
    refine re_aloadn (pc := 44) 0 (by decide +kernel : decode cX13_trade 44 = .ok (.aload_n 0, 1)) rfl ?_
    obtain ⟨u1_, g2_, h⟩ := rv_b_e h
    obtain ⟨x4_, g5_, h⟩ := rv_b_e h
    have m3_ := metX13_coins n S a0 _ g5_
    refine re_cV (pc := 45) [] m3_ (rv_okl.k ⟨rfl, rfl⟩) (rv_up.rf _ _) (by decide) (rv_ck_e g2_) ⟨by decide, rfl⟩ (Nat.le_of_ble_eq_true rfl) lVX13_258 rfl (by decide +kernel : decode cX13_trade 45 = .ok (.invokevirtual 258, 3)) ?_
    rcases rv_if_e h with ⟨g6_, h⟩ | ⟨g6_, h⟩
    · refine re_icmp_ge_t (pc := 48) 85 (by decide +kernel : decode cX13_trade 48 = .ok (.if_icmp .ge 37, 3)) (by decide) g6_ ?_
      refine re_sub [0, 2, 3] (lv1 := [(0, .ref a0), (2, .int x2), (3, .int x3)]) rfl ?_
      exact eX13_trade_85 n S a0 x2 x3 _ _ h
    · refine re_icmp_ge_f (pc := 48) 85 (by decide +kernel : decode cX13_trade 48 = .ok (.if_icmp .ge 37, 3)) (by decide) g6_ ?_
      refine re_aloadn (pc := 51) 0 (by decide +kernel : decode cX13_trade 51 = .ok (.aload_n 0, 1)) rfl ?_
      refine re_iload (pc := 52) 4 (by decide +kernel : decode cX13_trade 52 = .ok (.iload 4, 2)) rfl ?_
      refine re_iconst (pc := 54) (2 : Int32) (by decide +kernel : decode cX13_trade 54 = .ok (.iconst 2, 1)) (by decide) ?_
      obtain ⟨u7_, g8_, h⟩ := rv_b_e h
      obtain ⟨x10_, g11_, h⟩ := rv_b_e h
      have m9_ := metX13_ofCoin n S a0 x4 (2 : Int32) _ g11_
      refine re_cV (pc := 55) [.int x4, .int (2 : Int32)] m9_ (rv_okl.k ⟨rfl, rfl⟩) (rv_up.rf _ _) (by decide) (rv_ck_e g8_) ⟨by decide, rfl⟩ (Nat.le_of_ble_eq_true rfl) lVX13_271 rfl (by decide +kernel : decode cX13_trade 55 = .ok (.invokevirtual 271, 3)) ?_
      refine re_iloadn (pc := 58) 1 (by decide +kernel : decode cX13_trade 58 = .ok (.iload_n 1, 1)) rfl ?_
      rcases rv_if_e h with ⟨g12_, h⟩ | ⟨g12_, h⟩
      · refine re_icmp_le_t (pc := 59) 79 (by decide +kernel : decode cX13_trade 59 = .ok (.if_icmp .le 20, 3)) (by decide) g12_ ?_
        obtain ⟨x13_, g14_, h⟩ := rv_lt_e h
        refine re_iinc (pc := 79) 4 x13_ (lv1 := [(4, .int x13_), (0, .ref a0), (1, .int x1), (2, .int x2), (3, .int x3)]) (by decide +kernel : decode cX13_trade 79 = .ok (.iinc 4 1, 3)) rfl g14_ (by decide) rfl ?_
        refine re_goto (pc := 82) 42 (by decide +kernel : decode cX13_trade 82 = .ok (.goto (-40), 3)) (by decide) ?_
        refine re_sub [1, 2, 3, 4, 0] (lv1 := [(0, .ref a0), (1, .int x1), (2, .int x2), (3, .int x3), (4, .int x13_)]) rfl ?_
        exact ih S a0 x1 x2 x3 x13_ _ _ h
      · refine re_icmp_le_f (pc := 59) 79 (by decide +kernel : decode cX13_trade 59 = .ok (.if_icmp .le 20, 3)) (by decide) g12_ ?_
        refine re_aloadn (pc := 62) 0 (by decide +kernel : decode cX13_trade 62 = .ok (.aload_n 0, 1)) rfl ?_
        obtain ⟨a15_, g16_, h⟩ := rv_b_e h
        refine re_gR (pc := 63) g16_ lfX13_13 rfl (by decide +kernel : decode cX13_trade 63 = .ok (.getfield 13, 3)) ?_
        refine re_sipush (pc := 66) (132 : Int32) (by decide +kernel : decode cX13_trade 66 = .ok (.sipush 132, 3)) (by decide) ?_
        refine re_bipush (pc := 69) (6 : Int32) (by decide +kernel : decode cX13_trade 69 = .ok (.bipush 6, 2)) (by decide) ?_
        refine re_iload (pc := 71) 4 (by decide +kernel : decode cX13_trade 71 = .ok (.iload 4, 2)) rfl ?_
        refine re_imul (pc := 73) (by decide +kernel : decode cX13_trade 73 = .ok (.imul, 1)) ?_
        refine re_iadd (pc := 74) (by decide +kernel : decode cX13_trade 74 = .ok (.iadd, 1)) ?_
        refine re_iconst (pc := 75) (2 : Int32) (by decide +kernel : decode cX13_trade 75 = .ok (.iconst 2, 1)) (by decide) ?_
        refine re_iadd (pc := 76) (by decide +kernel : decode cX13_trade 76 = .ok (.iadd, 1)) ?_
        refine re_iloadn (pc := 77) 1 (by decide +kernel : decode cX13_trade 77 = .ok (.iload_n 1, 1)) rfl ?_
        obtain ⟨S17_, g18_, h⟩ := rv_b_e h
        refine re_uI (pc := 78) g18_ (by decide +kernel : decode cX13_trade 78 = .ok (.iastore, 1)) ?_
        obtain ⟨x19_, g20_, h⟩ := rv_lt_e h
        refine re_iinc (pc := 79) 4 x19_ (lv1 := [(4, .int x19_), (0, .ref a0), (1, .int x1), (2, .int x2), (3, .int x3)]) (by decide +kernel : decode cX13_trade 79 = .ok (.iinc 4 1, 3)) rfl g20_ (by decide) rfl ?_
        refine re_goto (pc := 82) 42 (by decide +kernel : decode cX13_trade 82 = .ok (.goto (-40), 3)) (by decide) ?_
        refine re_sub [1, 2, 3, 4, 0] (lv1 := [(0, .ref a0), (1, .int x1), (2, .int x2), (3, .int x3), (4, .int x19_)]) rfl ?_
        exact ih S17_ a0 x1 x2 x3 x19_ _ _ h
noncomputable def fnX13_trade (n : Nat) (S : rvS) (a0 : Nat) (x1 : Int32) (x2 : Int32) (x3 : Int32) : Option (Int32 × rvS) :=
  (rv_pI S 11 a0 0 (0 : Int32)).bind fun S1_ =>
  (rv_ck S1_ 11 a0).bind fun u3_ =>
  (fnX13_lay n S1_ a0).bind fun S6_ =>
  (fnX13_isIn n S6_ x1 (0 : Int32) (3 : Int32)).bind fun x10_ =>
  if x10_ = 0 then (
    some ((-1 : Int32), S6_))
  else (
    (rv_ck S6_ 11 a0).bind fun u13_ =>
    (fnX13_hasDays n S6_ a0 x2).bind fun x16_ =>
    if x16_ = 0 then (
      some ((-1 : Int32), S6_))
    else (
      (rv_ck S6_ 11 a0).bind fun u19_ =>
      (fnX13_layAside n S6_ a0).bind fun S22_ =>
      (rv_gR S22_ 11 a0 14).bind fun a25_ =>
      (rv_uI S22_ a25_ (3 : Int32) x1).bind fun S27_ =>
      cX13_trade_42 n n S27_ a0 x1 x2 x3 (0 : Int32)))
set_option maxRecDepth 20000 in
set_option maxHeartbeats 4000000 in
theorem eX13_trade_in (n : Nat) (S : rvS) (a0 : Nat) (x1 : Int32) (x2 : Int32) (x3 : Int32) (r : Int32) (S' : rvS) (h : fnX13_trade n S a0 x1 x2 x3 = some (r, S')) : rv_Ev mX13_trade 5 0 [(0, .ref a0), (1, .int x1), (2, .int x2), (3, .int x3)] [] S (some (.int r)) S' := by
  unfold fnX13_trade at h
  refine re_aloadn (pc := 0) 0 (by decide +kernel : decode cX13_trade 0 = .ok (.aload_n 0, 1)) rfl ?_
  refine re_iconst (pc := 1) (0 : Int32) (by decide +kernel : decode cX13_trade 1 = .ok (.iconst 0, 1)) (by decide) ?_
  obtain ⟨S1_, g2_, h⟩ := rv_b_e h
  refine re_pI (pc := 2) g2_ lfX13_99 rfl rfl rfl rfl (by decide +kernel : decode cX13_trade 2 = .ok (.putfield 99, 3)) ?_
  refine re_aloadn (pc := 5) 0 (by decide +kernel : decode cX13_trade 5 = .ok (.aload_n 0, 1)) rfl ?_
  obtain ⟨u3_, g4_, h⟩ := rv_b_e h
  obtain ⟨S6_, g7_, h⟩ := rv_b_e h
  have m5_ := metX13_lay n S1_ a0 _ g7_
  have z8_ : rv_same S1_ S6_ := m5_.sh rfl
  refine re_cV (pc := 6) [] m5_ (rv_okl.k z8_) (rv_up.sh z8_) (by decide) (rv_ck_e g4_) ⟨by decide, rfl⟩ (Nat.le_of_ble_eq_true rfl) lVX13_187 rfl (by decide +kernel : decode cX13_trade 6 = .ok (.invokevirtual 187, 3)) ?_
  refine re_iloadn (pc := 9) 1 (by decide +kernel : decode cX13_trade 9 = .ok (.iload_n 1, 1)) rfl ?_
  refine re_iconst (pc := 10) (0 : Int32) (by decide +kernel : decode cX13_trade 10 = .ok (.iconst 0, 1)) (by decide) ?_
  refine re_iconst (pc := 11) (3 : Int32) (by decide +kernel : decode cX13_trade 11 = .ok (.iconst 3, 1)) (by decide) ?_
  obtain ⟨x10_, g11_, h⟩ := rv_b_e h
  have m9_ := metX13_isIn n S6_ x1 (0 : Int32) (3 : Int32) _ g11_
  refine re_cS (pc := 12) [.int x1, .int (0 : Int32), .int (3 : Int32)] m9_ (rv_okl.k ⟨rfl, rfl⟩) (rv_up.rf _ _) (by decide) (Nat.le_of_ble_eq_true rfl) lSX13_170 rfl (by decide +kernel : decode cX13_trade 12 = .ok (.invokestatic 170, 3)) ?_
  rcases rv_if_e h with ⟨g12_, h⟩ | ⟨g12_, h⟩
  · refine re_if_eq_t (pc := 15) 26 (by decide +kernel : decode cX13_trade 15 = .ok (.ifCond .eq 11, 3)) (by decide) g12_ ?_
    refine re_iconst (pc := 26) (-1 : Int32) (by decide +kernel : decode cX13_trade 26 = .ok (.iconst (-1), 1)) (by decide) ?_
    cases h
    exact re_iret (fun ty hty => by cases hty; rfl) (by decide +kernel : decode cX13_trade 27 = .ok (.ireturn, 1))
  · refine re_if_eq_f (pc := 15) 26 (by decide +kernel : decode cX13_trade 15 = .ok (.ifCond .eq 11, 3)) (by decide) g12_ ?_
    refine re_aloadn (pc := 18) 0 (by decide +kernel : decode cX13_trade 18 = .ok (.aload_n 0, 1)) rfl ?_
    refine re_iloadn (pc := 19) 2 (by decide +kernel : decode cX13_trade 19 = .ok (.iload_n 2, 1)) rfl ?_
    obtain ⟨u13_, g14_, h⟩ := rv_b_e h
    obtain ⟨x16_, g17_, h⟩ := rv_b_e h
    have m15_ := metX13_hasDays n S6_ a0 x2 _ g17_
    refine re_cV (pc := 20) [.int x2] m15_ (rv_okl.k ⟨rfl, rfl⟩) (rv_up.rf _ _) (by decide) (rv_ck_e g14_) ⟨by decide, rfl⟩ (Nat.le_of_ble_eq_true rfl) lVX13_457 rfl (by decide +kernel : decode cX13_trade 20 = .ok (.invokevirtual 457, 3)) ?_
    rcases rv_if_e h with ⟨g18_, h⟩ | ⟨g18_, h⟩
    · refine re_if_ne_f (pc := 23) 28 (by decide +kernel : decode cX13_trade 23 = .ok (.ifCond .ne 5, 3)) (by decide) g18_ ?_
      refine re_iconst (pc := 26) (-1 : Int32) (by decide +kernel : decode cX13_trade 26 = .ok (.iconst (-1), 1)) (by decide) ?_
      cases h
      exact re_iret (fun ty hty => by cases hty; rfl) (by decide +kernel : decode cX13_trade 27 = .ok (.ireturn, 1))
    · refine re_if_ne_t (pc := 23) 28 (by decide +kernel : decode cX13_trade 23 = .ok (.ifCond .ne 5, 3)) (by decide) g18_ ?_
      refine re_aloadn (pc := 28) 0 (by decide +kernel : decode cX13_trade 28 = .ok (.aload_n 0, 1)) rfl ?_
      obtain ⟨u19_, g20_, h⟩ := rv_b_e h
      obtain ⟨S22_, g23_, h⟩ := rv_b_e h
      have m21_ := metX13_layAside n S6_ a0 _ g23_
      have z24_ : rv_same S6_ S22_ := m21_.sh rfl
      refine re_cV (pc := 29) [] m21_ (rv_okl.k z24_) (rv_up.sh z24_) (by decide) (rv_ck_e g20_) ⟨by decide, rfl⟩ (Nat.le_of_ble_eq_true rfl) lVX13_417 rfl (by decide +kernel : decode cX13_trade 29 = .ok (.invokevirtual 417, 3)) ?_
      refine re_aloadn (pc := 32) 0 (by decide +kernel : decode cX13_trade 32 = .ok (.aload_n 0, 1)) rfl ?_
      obtain ⟨a25_, g26_, h⟩ := rv_b_e h
      refine re_gR (pc := 33) g26_ lfX13_13 rfl (by decide +kernel : decode cX13_trade 33 = .ok (.getfield 13, 3)) ?_
      refine re_iconst (pc := 36) (3 : Int32) (by decide +kernel : decode cX13_trade 36 = .ok (.iconst 3, 1)) (by decide) ?_
      refine re_iloadn (pc := 37) 1 (by decide +kernel : decode cX13_trade 37 = .ok (.iload_n 1, 1)) rfl ?_
      obtain ⟨S27_, g28_, h⟩ := rv_b_e h
      refine re_uI (pc := 38) g28_ (by decide +kernel : decode cX13_trade 38 = .ok (.iastore, 1)) ?_
      refine re_iconst (pc := 39) (0 : Int32) (by decide +kernel : decode cX13_trade 39 = .ok (.iconst 0, 1)) (by decide) ?_
      refine re_istore (pc := 40) (lv1 := [(4, .int (0 : Int32)), (0, .ref a0), (1, .int x1), (2, .int x2), (3, .int x3)]) (by decide +kernel : decode cX13_trade 40 = .ok (.istore 4, 2)) (by decide) rfl ?_
      refine re_sub [1, 2, 3, 4, 0] (lv1 := [(0, .ref a0), (1, .int x1), (2, .int x2), (3, .int x3), (4, .int (0 : Int32))]) rfl ?_
      exact eX13_trade_42 n n S27_ a0 x1 x2 x3 (0 : Int32) _ _ h
theorem metX13_trade (n : Nat) (S : rvS) (a0 : Nat) (x1 : Int32) (x2 : Int32) (x3 : Int32) (r : Int32) (S' : rvS) (h : fnX13_trade n S a0 x1 x2 x3 = some (r, S')) : rv_Met yX13_trade mX13_trade 5 [.ref a0, .int x1, .int x2, .int x3] S (some (.int r)) S' := rv_Met.of ⟨by decide +kernel, rfl, (fun z => by first | rfl | cases z), rfl⟩ (Nat.le_of_ble_eq_true rfl) rfl (eX13_trade_in n S a0 x1 x2 x3 r S' h)
noncomputable def fnX13_lays (n : Nat) (S : rvS) (a0 : Nat) (x1 : Int32) (x2 : Int32) (x3 : Int32) (x4 : Int32) : Option (Int32 × rvS) :=
  (rv_gI S 11 a0 56).bind fun x1_ =>
  rv_lt ((4 : Int32) * x1_) fun x3_ =>
  (rv_gR S 11 a0 55).bind fun a5_ =>
  (rv_uI S a5_ x3_ x1).bind fun S7_ =>
  (rv_gR S7_ 11 a0 55).bind fun a9_ =>
  (rv_uI S7_ a9_ (x3_ + (1 : Int32)) x2).bind fun S11_ =>
  (rv_gR S11_ 11 a0 55).bind fun a13_ =>
  (rv_uI S11_ a13_ (x3_ + (2 : Int32)) x3).bind fun S15_ =>
  (rv_gR S15_ 11 a0 55).bind fun a17_ =>
  (rv_uI S15_ a17_ (x3_ + (3 : Int32)) x4).bind fun S19_ =>
  (rv_gI S19_ 11 a0 56).bind fun x21_ =>
  (rv_pI S19_ 11 a0 56 (x21_ + (1 : Int32))).bind fun S23_ =>
  (rv_gI S23_ 11 a0 56).bind fun x25_ =>
  some (x25_ - (1 : Int32), S23_)
set_option maxRecDepth 20000 in
set_option maxHeartbeats 4000000 in
theorem eX13_lays_in (n : Nat) (S : rvS) (a0 : Nat) (x1 : Int32) (x2 : Int32) (x3 : Int32) (x4 : Int32) (r : Int32) (S' : rvS) (h : fnX13_lays n S a0 x1 x2 x3 x4 = some (r, S')) : rv_Ev mX13_lays 0 0 [(0, .ref a0), (1, .int x1), (2, .int x2), (3, .int x3), (4, .int x4)] [] S (some (.int r)) S' := by
  unfold fnX13_lays at h
  refine re_iconst (pc := 0) (4 : Int32) (by decide +kernel : decode cX13_lays 0 = .ok (.iconst 4, 1)) (by decide) ?_
  refine re_aloadn (pc := 1) 0 (by decide +kernel : decode cX13_lays 1 = .ok (.aload_n 0, 1)) rfl ?_
  obtain ⟨x1_, g2_, h⟩ := rv_b_e h
  refine re_gI (pc := 2) g2_ lfX13_464 rfl (by decide +kernel : decode cX13_lays 2 = .ok (.getfield 464, 3)) ?_
  refine re_imul (pc := 5) (by decide +kernel : decode cX13_lays 5 = .ok (.imul, 1)) ?_
  obtain ⟨x3_, g4_, h⟩ := rv_lt_e h
  refine re_nI (pc := 6) g4_ ?_
  refine re_istore (pc := 6) (lv1 := [(5, .int x3_), (0, .ref a0), (1, .int x1), (2, .int x2), (3, .int x3), (4, .int x4)]) (by decide +kernel : decode cX13_lays 6 = .ok (.istore 5, 2)) (by decide) rfl ?_
  refine re_aloadn (pc := 8) 1 (by decide +kernel : decode cX13_lays 8 = .ok (.aload_n 0, 1)) rfl ?_
  obtain ⟨a5_, g6_, h⟩ := rv_b_e h
  refine re_gR (pc := 9) g6_ lfX13_96 rfl (by decide +kernel : decode cX13_lays 9 = .ok (.getfield 96, 3)) ?_
  refine re_iload (pc := 12) 0 (by decide +kernel : decode cX13_lays 12 = .ok (.iload 5, 2)) rfl ?_
  refine re_iloadn (pc := 14) 2 (by decide +kernel : decode cX13_lays 14 = .ok (.iload_n 1, 1)) rfl ?_
  obtain ⟨S7_, g8_, h⟩ := rv_b_e h
  refine re_uI (pc := 15) g8_ (by decide +kernel : decode cX13_lays 15 = .ok (.iastore, 1)) ?_
  refine re_aloadn (pc := 16) 1 (by decide +kernel : decode cX13_lays 16 = .ok (.aload_n 0, 1)) rfl ?_
  obtain ⟨a9_, g10_, h⟩ := rv_b_e h
  refine re_gR (pc := 17) g10_ lfX13_96 rfl (by decide +kernel : decode cX13_lays 17 = .ok (.getfield 96, 3)) ?_
  refine re_iload (pc := 20) 0 (by decide +kernel : decode cX13_lays 20 = .ok (.iload 5, 2)) rfl ?_
  refine re_iconst (pc := 22) (1 : Int32) (by decide +kernel : decode cX13_lays 22 = .ok (.iconst 1, 1)) (by decide) ?_
  refine re_iadd (pc := 23) (by decide +kernel : decode cX13_lays 23 = .ok (.iadd, 1)) ?_
  refine re_iloadn (pc := 24) 3 (by decide +kernel : decode cX13_lays 24 = .ok (.iload_n 2, 1)) rfl ?_
  obtain ⟨S11_, g12_, h⟩ := rv_b_e h
  refine re_uI (pc := 25) g12_ (by decide +kernel : decode cX13_lays 25 = .ok (.iastore, 1)) ?_
  refine re_aloadn (pc := 26) 1 (by decide +kernel : decode cX13_lays 26 = .ok (.aload_n 0, 1)) rfl ?_
  obtain ⟨a13_, g14_, h⟩ := rv_b_e h
  refine re_gR (pc := 27) g14_ lfX13_96 rfl (by decide +kernel : decode cX13_lays 27 = .ok (.getfield 96, 3)) ?_
  refine re_iload (pc := 30) 0 (by decide +kernel : decode cX13_lays 30 = .ok (.iload 5, 2)) rfl ?_
  refine re_iconst (pc := 32) (2 : Int32) (by decide +kernel : decode cX13_lays 32 = .ok (.iconst 2, 1)) (by decide) ?_
  refine re_iadd (pc := 33) (by decide +kernel : decode cX13_lays 33 = .ok (.iadd, 1)) ?_
  refine re_iloadn (pc := 34) 4 (by decide +kernel : decode cX13_lays 34 = .ok (.iload_n 3, 1)) rfl ?_
  obtain ⟨S15_, g16_, h⟩ := rv_b_e h
  refine re_uI (pc := 35) g16_ (by decide +kernel : decode cX13_lays 35 = .ok (.iastore, 1)) ?_
  refine re_aloadn (pc := 36) 1 (by decide +kernel : decode cX13_lays 36 = .ok (.aload_n 0, 1)) rfl ?_
  obtain ⟨a17_, g18_, h⟩ := rv_b_e h
  refine re_gR (pc := 37) g18_ lfX13_96 rfl (by decide +kernel : decode cX13_lays 37 = .ok (.getfield 96, 3)) ?_
  refine re_iload (pc := 40) 0 (by decide +kernel : decode cX13_lays 40 = .ok (.iload 5, 2)) rfl ?_
  refine re_iconst (pc := 42) (3 : Int32) (by decide +kernel : decode cX13_lays 42 = .ok (.iconst 3, 1)) (by decide) ?_
  refine re_iadd (pc := 43) (by decide +kernel : decode cX13_lays 43 = .ok (.iadd, 1)) ?_
  refine re_iload (pc := 44) 5 (by decide +kernel : decode cX13_lays 44 = .ok (.iload 4, 2)) rfl ?_
  obtain ⟨S19_, g20_, h⟩ := rv_b_e h
  refine re_uI (pc := 46) g20_ (by decide +kernel : decode cX13_lays 46 = .ok (.iastore, 1)) ?_
  refine re_aloadn (pc := 47) 1 (by decide +kernel : decode cX13_lays 47 = .ok (.aload_n 0, 1)) rfl ?_
  refine re_dup (pc := 48) (by decide +kernel : decode cX13_lays 48 = .ok (.dup, 1)) rfl ?_
  obtain ⟨x21_, g22_, h⟩ := rv_b_e h
  refine re_gI (pc := 49) g22_ lfX13_464 rfl (by decide +kernel : decode cX13_lays 49 = .ok (.getfield 464, 3)) ?_
  refine re_iconst (pc := 52) (1 : Int32) (by decide +kernel : decode cX13_lays 52 = .ok (.iconst 1, 1)) (by decide) ?_
  refine re_iadd (pc := 53) (by decide +kernel : decode cX13_lays 53 = .ok (.iadd, 1)) ?_
  obtain ⟨S23_, g24_, h⟩ := rv_b_e h
  refine re_pI (pc := 54) g24_ lfX13_464 rfl rfl rfl rfl (by decide +kernel : decode cX13_lays 54 = .ok (.putfield 464, 3)) ?_
  refine re_aloadn (pc := 57) 1 (by decide +kernel : decode cX13_lays 57 = .ok (.aload_n 0, 1)) rfl ?_
  obtain ⟨x25_, g26_, h⟩ := rv_b_e h
  refine re_gI (pc := 58) g26_ lfX13_464 rfl (by decide +kernel : decode cX13_lays 58 = .ok (.getfield 464, 3)) ?_
  refine re_iconst (pc := 61) (1 : Int32) (by decide +kernel : decode cX13_lays 61 = .ok (.iconst 1, 1)) (by decide) ?_
  refine re_isub (pc := 62) (by decide +kernel : decode cX13_lays 62 = .ok (.isub, 1)) ?_
  cases h
  exact re_iret (fun ty hty => by cases hty; rfl) (by decide +kernel : decode cX13_lays 63 = .ok (.ireturn, 1))
theorem metX13_lays (n : Nat) (S : rvS) (a0 : Nat) (x1 : Int32) (x2 : Int32) (x3 : Int32) (x4 : Int32) (r : Int32) (S' : rvS) (h : fnX13_lays n S a0 x1 x2 x3 x4 = some (r, S')) : rv_Met yX13_lays mX13_lays 0 [.ref a0, .int x1, .int x2, .int x3, .int x4] S (some (.int r)) S' := rv_Met.of ⟨by decide +kernel, rfl, (fun z => by first | rfl | cases z), rfl⟩ (Nat.le_of_ble_eq_true rfl) rfl (eX13_lays_in n S a0 x1 x2 x3 x4 r S' h)
noncomputable def fnX13_readNamed (n : Nat) (S : rvS) (a0 : Nat) (x1 : Int32) : Option (Int32 × rvS) :=
  (rv_ck S 11 a0).bind fun u1_ =>
  (fnX13_isName n S a0).bind fun x4_ =>
  if x4_ = 0 then (
    (rv_ck S 11 a0).bind fun u41_ =>
    rv_bp (fnX13_bad n S a0 (1 : Int32)) fun x44_ S45_ =>
    (rv_bo x44_).bind fun b_ =>
    some (b_, S45_))
  else (
    (rv_gR S 11 a0 18).bind fun a7_ =>
    (rv_gR S 11 a0 14).bind fun a9_ =>
    (rv_aI S 0 a9_ (6 : Int32)).bind fun x11_ =>
    (rv_gL S 11 a0 12).bind fun x13_ =>
    (fnX13_findIn n S a7_ x11_ x13_).bind fun x16_ =>
    if x16_ = (-1 : Int32) then (
      (rv_ck S 11 a0).bind fun u34_ =>
      rv_bp (fnX13_bad n S a0 (3 : Int32)) fun x37_ S38_ =>
      (rv_bo x37_).bind fun b_ =>
      some (b_, S38_))
    else (
      (rv_ck S 11 a0).bind fun u19_ =>
      rv_bp (fnX13_lays n S a0 ((50 : Int32) + x1) x16_ (0 : Int32) (0 : Int32)) fun x22_ S23_ =>
      (rv_pI S23_ 11 a0 59 x22_).bind fun S26_ =>
      (rv_ck S26_ 11 a0).bind fun u28_ =>
      (fnX13_go n S26_ a0).bind fun S31_ =>
      some ((1 : Int32), S31_)))
set_option maxRecDepth 20000 in
set_option maxHeartbeats 4000000 in
theorem eX13_readNamed_in (n : Nat) (S : rvS) (a0 : Nat) (x1 : Int32) (r : Int32) (S' : rvS) (h : fnX13_readNamed n S a0 x1 = some (r, S')) : rv_Ev mX13_readNamed 3 0 [(0, .ref a0), (1, .int x1)] [] S (some (.int r)) S' := by
  unfold fnX13_readNamed at h
  refine re_aloadn (pc := 0) 0 (by decide +kernel : decode cX13_readNamed 0 = .ok (.aload_n 0, 1)) rfl ?_
  obtain ⟨u1_, g2_, h⟩ := rv_b_e h
  obtain ⟨x4_, g5_, h⟩ := rv_b_e h
  have m3_ := metX13_isName n S a0 _ g5_
  refine re_cV (pc := 1) [] m3_ (rv_okl.k ⟨rfl, rfl⟩) (rv_up.rf _ _) (by decide) (rv_ck_e g2_) ⟨by decide, rfl⟩ (Nat.le_of_ble_eq_true rfl) lVX13_208 rfl (by decide +kernel : decode cX13_readNamed 1 = .ok (.invokevirtual 208, 3)) ?_
  rcases rv_if_e h with ⟨g6_, h⟩ | ⟨g6_, h⟩
  · refine re_if_ne_f (pc := 4) 13 (by decide +kernel : decode cX13_readNamed 4 = .ok (.ifCond .ne 9, 3)) (by decide) g6_ ?_
    refine re_aloadn (pc := 7) 0 (by decide +kernel : decode cX13_readNamed 7 = .ok (.aload_n 0, 1)) rfl ?_
    refine re_iconst (pc := 8) (1 : Int32) (by decide +kernel : decode cX13_readNamed 8 = .ok (.iconst 1, 1)) (by decide) ?_
    obtain ⟨u41_, g42_, h⟩ := rv_b_e h
    obtain ⟨x44_, S45_, g46_, h⟩ := rv_bp_e h
    have m43_ := metX13_bad n S a0 (1 : Int32) _ _ g46_
    have z47_ : rv_same S S45_ := m43_.sh rfl
    refine re_cV (pc := 9) [.int (1 : Int32)] m43_ (rv_okl.k z47_) (rv_up.sh z47_) (by decide) (rv_ck_e g42_) ⟨by decide, rfl⟩ (Nat.le_of_ble_eq_true rfl) lVX13_167 rfl (by decide +kernel : decode cX13_readNamed 9 = .ok (.invokevirtual 167, 3)) ?_
    obtain ⟨b_, gb_, h⟩ := rv_b_e h
    obtain ⟨gb1_, gb2_⟩ := rv_bo_e gb_
    refine re_nI (pc := 12) gb1_ ?_
    cases h
    exact re_iret (fun ty hty => by cases hty; exact gb2_) (by decide +kernel : decode cX13_readNamed 12 = .ok (.ireturn, 1))
  · refine re_if_ne_t (pc := 4) 13 (by decide +kernel : decode cX13_readNamed 4 = .ok (.ifCond .ne 9, 3)) (by decide) g6_ ?_
    refine re_aloadn (pc := 13) 0 (by decide +kernel : decode cX13_readNamed 13 = .ok (.aload_n 0, 1)) rfl ?_
    obtain ⟨a7_, g8_, h⟩ := rv_b_e h
    refine re_gR (pc := 14) g8_ lfX13_25 rfl (by decide +kernel : decode cX13_readNamed 14 = .ok (.getfield 25, 3)) ?_
    refine re_aloadn (pc := 17) 0 (by decide +kernel : decode cX13_readNamed 17 = .ok (.aload_n 0, 1)) rfl ?_
    obtain ⟨a9_, g10_, h⟩ := rv_b_e h
    refine re_gR (pc := 18) g10_ lfX13_13 rfl (by decide +kernel : decode cX13_readNamed 18 = .ok (.getfield 13, 3)) ?_
    refine re_bipush (pc := 21) (6 : Int32) (by decide +kernel : decode cX13_readNamed 21 = .ok (.bipush 6, 2)) (by decide) ?_
    obtain ⟨x11_, g12_, h⟩ := rv_b_e h
    refine re_aI (pc := 23) g12_ (by decide +kernel : decode cX13_readNamed 23 = .ok (.iaload, 1)) ?_
    refine re_aloadn (pc := 24) 0 (by decide +kernel : decode cX13_readNamed 24 = .ok (.aload_n 0, 1)) rfl ?_
    obtain ⟨x13_, g14_, h⟩ := rv_b_e h
    refine re_gL (pc := 25) g14_ lfX13_134 rfl (by decide +kernel : decode cX13_readNamed 25 = .ok (.getfield 134, 3)) ?_
    obtain ⟨x16_, g17_, h⟩ := rv_b_e h
    have m15_ := metX13_findIn n S a7_ x11_ x13_ _ g17_
    refine re_cS (pc := 28) [.ref a7_, .int x11_, .long x13_] m15_ (rv_okl.k ⟨rfl, rfl⟩) (rv_up.rf _ _) (by decide) (Nat.le_of_ble_eq_true rfl) lSX13_212 rfl (by decide +kernel : decode cX13_readNamed 28 = .ok (.invokestatic 212, 3)) ?_
    refine re_istoren (pc := 31) (lv1 := [(2, .int x16_), (0, .ref a0), (1, .int x1)]) (by decide +kernel : decode cX13_readNamed 31 = .ok (.istore_n 2, 1)) rfl (by decide) rfl ?_
    refine re_iloadn (pc := 32) 0 (by decide +kernel : decode cX13_readNamed 32 = .ok (.iload_n 2, 1)) rfl ?_
    refine re_iconst (pc := 33) (-1 : Int32) (by decide +kernel : decode cX13_readNamed 33 = .ok (.iconst (-1), 1)) (by decide) ?_
    rcases rv_if_e h with ⟨g18_, h⟩ | ⟨g18_, h⟩
    · refine re_icmp_ne_f (pc := 34) 43 (by decide +kernel : decode cX13_readNamed 34 = .ok (.if_icmp .ne 9, 3)) (by decide) g18_ ?_
      refine re_aloadn (pc := 37) 1 (by decide +kernel : decode cX13_readNamed 37 = .ok (.aload_n 0, 1)) rfl ?_
      refine re_iconst (pc := 38) (3 : Int32) (by decide +kernel : decode cX13_readNamed 38 = .ok (.iconst 3, 1)) (by decide) ?_
      obtain ⟨u34_, g35_, h⟩ := rv_b_e h
      obtain ⟨x37_, S38_, g39_, h⟩ := rv_bp_e h
      have m36_ := metX13_bad n S a0 (3 : Int32) _ _ g39_
      have z40_ : rv_same S S38_ := m36_.sh rfl
      refine re_cV (pc := 39) [.int (3 : Int32)] m36_ (rv_okl.k z40_) (rv_up.sh z40_) (by decide) (rv_ck_e g35_) ⟨by decide, rfl⟩ (Nat.le_of_ble_eq_true rfl) lVX13_167 rfl (by decide +kernel : decode cX13_readNamed 39 = .ok (.invokevirtual 167, 3)) ?_
      obtain ⟨b_, gb_, h⟩ := rv_b_e h
      obtain ⟨gb1_, gb2_⟩ := rv_bo_e gb_
      refine re_nI (pc := 42) gb1_ ?_
      cases h
      exact re_iret (fun ty hty => by cases hty; exact gb2_) (by decide +kernel : decode cX13_readNamed 42 = .ok (.ireturn, 1))
    · refine re_icmp_ne_t (pc := 34) 43 (by decide +kernel : decode cX13_readNamed 34 = .ok (.if_icmp .ne 9, 3)) (by decide) g18_ ?_
      refine re_aloadn (pc := 43) 1 (by decide +kernel : decode cX13_readNamed 43 = .ok (.aload_n 0, 1)) rfl ?_
      refine re_aloadn (pc := 44) 1 (by decide +kernel : decode cX13_readNamed 44 = .ok (.aload_n 0, 1)) rfl ?_
      refine re_bipush (pc := 45) (50 : Int32) (by decide +kernel : decode cX13_readNamed 45 = .ok (.bipush 50, 2)) (by decide) ?_
      refine re_iloadn (pc := 47) 2 (by decide +kernel : decode cX13_readNamed 47 = .ok (.iload_n 1, 1)) rfl ?_
      refine re_iadd (pc := 48) (by decide +kernel : decode cX13_readNamed 48 = .ok (.iadd, 1)) ?_
      refine re_iloadn (pc := 49) 0 (by decide +kernel : decode cX13_readNamed 49 = .ok (.iload_n 2, 1)) rfl ?_
      refine re_iconst (pc := 50) (0 : Int32) (by decide +kernel : decode cX13_readNamed 50 = .ok (.iconst 0, 1)) (by decide) ?_
      refine re_iconst (pc := 51) (0 : Int32) (by decide +kernel : decode cX13_readNamed 51 = .ok (.iconst 0, 1)) (by decide) ?_
      obtain ⟨u19_, g20_, h⟩ := rv_b_e h
      obtain ⟨x22_, S23_, g24_, h⟩ := rv_bp_e h
      have m21_ := metX13_lays n S a0 ((50 : Int32) + x1) x16_ (0 : Int32) (0 : Int32) _ _ g24_
      have z25_ : rv_same S S23_ := m21_.sh rfl
      refine re_cV (pc := 52) [.int ((50 : Int32) + x1), .int x16_, .int (0 : Int32), .int (0 : Int32)] m21_ (rv_okl.k z25_) (rv_up.sh z25_) (by decide) (rv_ck_e g20_) ⟨by decide, rfl⟩ (Nat.le_of_ble_eq_true rfl) lVX13_473 rfl (by decide +kernel : decode cX13_readNamed 52 = .ok (.invokevirtual 473, 3)) ?_
      obtain ⟨S26_, g27_, h⟩ := rv_b_e h
      refine re_pI (pc := 55) g27_ lfX13_470 rfl rfl rfl rfl (by decide +kernel : decode cX13_readNamed 55 = .ok (.putfield 470, 3)) ?_
      refine re_aloadn (pc := 58) 1 (by decide +kernel : decode cX13_readNamed 58 = .ok (.aload_n 0, 1)) rfl ?_
      obtain ⟨u28_, g29_, h⟩ := rv_b_e h
      obtain ⟨S31_, g32_, h⟩ := rv_b_e h
      have m30_ := metX13_go n S26_ a0 _ g32_
      have z33_ : rv_same S26_ S31_ := m30_.sh rfl
      refine re_cV (pc := 59) [] m30_ (rv_okl.k z33_) (rv_up.sh z33_) (by decide) (rv_ck_e g29_) ⟨by decide, rfl⟩ (Nat.le_of_ble_eq_true rfl) lVX13_181 rfl (by decide +kernel : decode cX13_readNamed 59 = .ok (.invokevirtual 181, 3)) ?_
      refine re_iconst (pc := 62) (1 : Int32) (by decide +kernel : decode cX13_readNamed 62 = .ok (.iconst 1, 1)) (by decide) ?_
      cases h
      exact re_iret (fun ty hty => by cases hty; rfl) (by decide +kernel : decode cX13_readNamed 63 = .ok (.ireturn, 1))
theorem metX13_readNamed (n : Nat) (S : rvS) (a0 : Nat) (x1 : Int32) (r : Int32) (S' : rvS) (h : fnX13_readNamed n S a0 x1 = some (r, S')) : rv_Met yX13_readNamed mX13_readNamed 3 [.ref a0, .int x1] S (some (.int r)) S' := rv_Met.of ⟨by decide +kernel, rfl, (fun z => by first | rfl | cases z), rfl⟩ (Nat.le_of_ble_eq_true rfl) rfl (eX13_readNamed_in n S a0 x1 r S' h)
noncomputable def cX13_readCompare_33 (n : Nat) (S : rvS) (a0 : Nat) (x1 : Int32) : Option (Int32 × rvS) :=
  (rv_gI S 11 a0 9).bind fun x1_ =>
  (rv_ck S 11 a0).bind fun u3_ =>
  (fnX13_go n S a0).bind fun S6_ =>
  (rv_ck S6_ 11 a0).bind fun u9_ =>
  rv_bp (fnX13_readNumber n S6_ a0 (0 : Int32) (999 : Int32)) fun x12_ S13_ =>
  if x12_ = 0 then (
    some ((0 : Int32), S13_))
  else (
    (rv_gI S13_ 11 a0 13).bind fun x17_ =>
    (rv_ck S13_ 11 a0).bind fun u19_ =>
    rv_bp (fnX13_lays n S13_ a0 ((50 : Int32) + x1) (0 : Int32) x17_ x1_) fun x22_ S23_ =>
    (rv_pI S23_ 11 a0 59 x22_).bind fun S26_ =>
    some ((1 : Int32), S26_))
set_option maxRecDepth 20000 in
set_option maxHeartbeats 4000000 in
theorem eX13_readCompare_33 (n : Nat) (S : rvS) (a0 : Nat) (x1 : Int32) (r : Int32) (S' : rvS) (h : cX13_readCompare_33 n S a0 x1 = some (r, S')) : rv_Ev mX13_readCompare 3 33 [(0, .ref a0), (1, .int x1)] [] S (some (.int r)) S' := by
  unfold cX13_readCompare_33 at h
  refine re_aloadn (pc := 33) 0 (by decide +kernel : decode cX13_readCompare 33 = .ok (.aload_n 0, 1)) rfl ?_
  obtain ⟨x1_, g2_, h⟩ := rv_b_e h
  refine re_gI (pc := 34) g2_ lfX13_131 rfl (by decide +kernel : decode cX13_readCompare 34 = .ok (.getfield 131, 3)) ?_
  refine re_istoren (pc := 37) (lv1 := [(2, .int x1_), (0, .ref a0), (1, .int x1)]) (by decide +kernel : decode cX13_readCompare 37 = .ok (.istore_n 2, 1)) rfl (by decide) rfl ?_
  refine re_aloadn (pc := 38) 1 (by decide +kernel : decode cX13_readCompare 38 = .ok (.aload_n 0, 1)) rfl ?_
  obtain ⟨u3_, g4_, h⟩ := rv_b_e h
  obtain ⟨S6_, g7_, h⟩ := rv_b_e h
  have m5_ := metX13_go n S a0 _ g7_
  have z8_ : rv_same S S6_ := m5_.sh rfl
  refine re_cV (pc := 39) [] m5_ (rv_okl.k z8_) (rv_up.sh z8_) (by decide) (rv_ck_e g4_) ⟨by decide, rfl⟩ (Nat.le_of_ble_eq_true rfl) lVX13_181 rfl (by decide +kernel : decode cX13_readCompare 39 = .ok (.invokevirtual 181, 3)) ?_
  refine re_aloadn (pc := 42) 1 (by decide +kernel : decode cX13_readCompare 42 = .ok (.aload_n 0, 1)) rfl ?_
  refine re_iconst (pc := 43) (0 : Int32) (by decide +kernel : decode cX13_readCompare 43 = .ok (.iconst 0, 1)) (by decide) ?_
  refine re_sipush (pc := 44) (999 : Int32) (by decide +kernel : decode cX13_readCompare 44 = .ok (.sipush 999, 3)) (by decide) ?_
  obtain ⟨u9_, g10_, h⟩ := rv_b_e h
  obtain ⟨x12_, S13_, g14_, h⟩ := rv_bp_e h
  have m11_ := metX13_readNumber n S6_ a0 (0 : Int32) (999 : Int32) _ _ g14_
  have z15_ : rv_same S6_ S13_ := m11_.sh rfl
  refine re_cV (pc := 47) [.int (0 : Int32), .int (999 : Int32)] m11_ (rv_okl.k z15_) (rv_up.sh z15_) (by decide) (rv_ck_e g10_) ⟨by decide, rfl⟩ (Nat.le_of_ble_eq_true rfl) lVX13_216 rfl (by decide +kernel : decode cX13_readCompare 47 = .ok (.invokevirtual 216, 3)) ?_
  rcases rv_if_e h with ⟨g16_, h⟩ | ⟨g16_, h⟩
  · refine re_if_ne_f (pc := 50) 55 (by decide +kernel : decode cX13_readCompare 50 = .ok (.ifCond .ne 5, 3)) (by decide) g16_ ?_
    refine re_iconst (pc := 53) (0 : Int32) (by decide +kernel : decode cX13_readCompare 53 = .ok (.iconst 0, 1)) (by decide) ?_
    cases h
    exact re_iret (fun ty hty => by cases hty; rfl) (by decide +kernel : decode cX13_readCompare 54 = .ok (.ireturn, 1))
  · refine re_if_ne_t (pc := 50) 55 (by decide +kernel : decode cX13_readCompare 50 = .ok (.ifCond .ne 5, 3)) (by decide) g16_ ?_
    refine re_aloadn (pc := 55) 1 (by decide +kernel : decode cX13_readCompare 55 = .ok (.aload_n 0, 1)) rfl ?_
    refine re_aloadn (pc := 56) 1 (by decide +kernel : decode cX13_readCompare 56 = .ok (.aload_n 0, 1)) rfl ?_
    refine re_bipush (pc := 57) (50 : Int32) (by decide +kernel : decode cX13_readCompare 57 = .ok (.bipush 50, 2)) (by decide) ?_
    refine re_iloadn (pc := 59) 2 (by decide +kernel : decode cX13_readCompare 59 = .ok (.iload_n 1, 1)) rfl ?_
    refine re_iadd (pc := 60) (by decide +kernel : decode cX13_readCompare 60 = .ok (.iadd, 1)) ?_
    refine re_iconst (pc := 61) (0 : Int32) (by decide +kernel : decode cX13_readCompare 61 = .ok (.iconst 0, 1)) (by decide) ?_
    refine re_aloadn (pc := 62) 1 (by decide +kernel : decode cX13_readCompare 62 = .ok (.aload_n 0, 1)) rfl ?_
    obtain ⟨x17_, g18_, h⟩ := rv_b_e h
    refine re_gI (pc := 63) g18_ lfX13_174 rfl (by decide +kernel : decode cX13_readCompare 63 = .ok (.getfield 174, 3)) ?_
    refine re_iloadn (pc := 66) 0 (by decide +kernel : decode cX13_readCompare 66 = .ok (.iload_n 2, 1)) rfl ?_
    obtain ⟨u19_, g20_, h⟩ := rv_b_e h
    obtain ⟨x22_, S23_, g24_, h⟩ := rv_bp_e h
    have m21_ := metX13_lays n S13_ a0 ((50 : Int32) + x1) (0 : Int32) x17_ x1_ _ _ g24_
    have z25_ : rv_same S13_ S23_ := m21_.sh rfl
    refine re_cV (pc := 67) [.int ((50 : Int32) + x1), .int (0 : Int32), .int x17_, .int x1_] m21_ (rv_okl.k z25_) (rv_up.sh z25_) (by decide) (rv_ck_e g20_) ⟨by decide, rfl⟩ (Nat.le_of_ble_eq_true rfl) lVX13_473 rfl (by decide +kernel : decode cX13_readCompare 67 = .ok (.invokevirtual 473, 3)) ?_
    obtain ⟨S26_, g27_, h⟩ := rv_b_e h
    refine re_pI (pc := 70) g27_ lfX13_470 rfl rfl rfl rfl (by decide +kernel : decode cX13_readCompare 70 = .ok (.putfield 470, 3)) ?_
    refine re_iconst (pc := 73) (1 : Int32) (by decide +kernel : decode cX13_readCompare 73 = .ok (.iconst 1, 1)) (by decide) ?_
    cases h
    exact re_iret (fun ty hty => by cases hty; rfl) (by decide +kernel : decode cX13_readCompare 74 = .ok (.ireturn, 1))
noncomputable def fnX13_readCompare (n : Nat) (S : rvS) (a0 : Nat) (x1 : Int32) : Option (Int32 × rvS) :=
  (rv_ck S 11 a0).bind fun u1_ =>
  (fnX13_isSign n S a0 (60 : Int32)).bind fun x4_ =>
  if x4_ = 0 then (
    (rv_ck S 11 a0).bind fun u7_ =>
    (fnX13_isSign n S a0 (61 : Int32)).bind fun x10_ =>
    if x10_ = 0 then (
      (rv_ck S 11 a0).bind fun u13_ =>
      (fnX13_isSign n S a0 (62 : Int32)).bind fun x16_ =>
      if x16_ = 0 then (
        (rv_ck S 11 a0).bind fun u19_ =>
        rv_bp (fnX13_bad n S a0 (1 : Int32)) fun x22_ S23_ =>
        (rv_bo x22_).bind fun b_ =>
        some (b_, S23_))
      else (
        cX13_readCompare_33 n S a0 x1))
    else (
      cX13_readCompare_33 n S a0 x1))
  else (
    cX13_readCompare_33 n S a0 x1)
set_option maxRecDepth 20000 in
set_option maxHeartbeats 4000000 in
theorem eX13_readCompare_in (n : Nat) (S : rvS) (a0 : Nat) (x1 : Int32) (r : Int32) (S' : rvS) (h : fnX13_readCompare n S a0 x1 = some (r, S')) : rv_Ev mX13_readCompare 3 0 [(0, .ref a0), (1, .int x1)] [] S (some (.int r)) S' := by
  unfold fnX13_readCompare at h
  refine re_aloadn (pc := 0) 0 (by decide +kernel : decode cX13_readCompare 0 = .ok (.aload_n 0, 1)) rfl ?_
  refine re_bipush (pc := 1) (60 : Int32) (by decide +kernel : decode cX13_readCompare 1 = .ok (.bipush 60, 2)) (by decide) ?_
  obtain ⟨u1_, g2_, h⟩ := rv_b_e h
  obtain ⟨x4_, g5_, h⟩ := rv_b_e h
  have m3_ := metX13_isSign n S a0 (60 : Int32) _ g5_
  refine re_cV (pc := 3) [.int (60 : Int32)] m3_ (rv_okl.k ⟨rfl, rfl⟩) (rv_up.rf _ _) (by decide) (rv_ck_e g2_) ⟨by decide, rfl⟩ (Nat.le_of_ble_eq_true rfl) lVX13_184 rfl (by decide +kernel : decode cX13_readCompare 3 = .ok (.invokevirtual 184, 3)) ?_
  rcases rv_if_e h with ⟨g6_, h⟩ | ⟨g6_, h⟩
  · refine re_if_ne_f (pc := 6) 33 (by decide +kernel : decode cX13_readCompare 6 = .ok (.ifCond .ne 27, 3)) (by decide) g6_ ?_
    refine re_aloadn (pc := 9) 0 (by decide +kernel : decode cX13_readCompare 9 = .ok (.aload_n 0, 1)) rfl ?_
    refine re_bipush (pc := 10) (61 : Int32) (by decide +kernel : decode cX13_readCompare 10 = .ok (.bipush 61, 2)) (by decide) ?_
    obtain ⟨u7_, g8_, h⟩ := rv_b_e h
    obtain ⟨x10_, g11_, h⟩ := rv_b_e h
    have m9_ := metX13_isSign n S a0 (61 : Int32) _ g11_
    refine re_cV (pc := 12) [.int (61 : Int32)] m9_ (rv_okl.k ⟨rfl, rfl⟩) (rv_up.rf _ _) (by decide) (rv_ck_e g8_) ⟨by decide, rfl⟩ (Nat.le_of_ble_eq_true rfl) lVX13_184 rfl (by decide +kernel : decode cX13_readCompare 12 = .ok (.invokevirtual 184, 3)) ?_
    rcases rv_if_e h with ⟨g12_, h⟩ | ⟨g12_, h⟩
    · refine re_if_ne_f (pc := 15) 33 (by decide +kernel : decode cX13_readCompare 15 = .ok (.ifCond .ne 18, 3)) (by decide) g12_ ?_
      refine re_aloadn (pc := 18) 0 (by decide +kernel : decode cX13_readCompare 18 = .ok (.aload_n 0, 1)) rfl ?_
      refine re_bipush (pc := 19) (62 : Int32) (by decide +kernel : decode cX13_readCompare 19 = .ok (.bipush 62, 2)) (by decide) ?_
      obtain ⟨u13_, g14_, h⟩ := rv_b_e h
      obtain ⟨x16_, g17_, h⟩ := rv_b_e h
      have m15_ := metX13_isSign n S a0 (62 : Int32) _ g17_
      refine re_cV (pc := 21) [.int (62 : Int32)] m15_ (rv_okl.k ⟨rfl, rfl⟩) (rv_up.rf _ _) (by decide) (rv_ck_e g14_) ⟨by decide, rfl⟩ (Nat.le_of_ble_eq_true rfl) lVX13_184 rfl (by decide +kernel : decode cX13_readCompare 21 = .ok (.invokevirtual 184, 3)) ?_
      rcases rv_if_e h with ⟨g18_, h⟩ | ⟨g18_, h⟩
      · refine re_if_ne_f (pc := 24) 33 (by decide +kernel : decode cX13_readCompare 24 = .ok (.ifCond .ne 9, 3)) (by decide) g18_ ?_
        refine re_aloadn (pc := 27) 0 (by decide +kernel : decode cX13_readCompare 27 = .ok (.aload_n 0, 1)) rfl ?_
        refine re_iconst (pc := 28) (1 : Int32) (by decide +kernel : decode cX13_readCompare 28 = .ok (.iconst 1, 1)) (by decide) ?_
        obtain ⟨u19_, g20_, h⟩ := rv_b_e h
        obtain ⟨x22_, S23_, g24_, h⟩ := rv_bp_e h
        have m21_ := metX13_bad n S a0 (1 : Int32) _ _ g24_
        have z25_ : rv_same S S23_ := m21_.sh rfl
        refine re_cV (pc := 29) [.int (1 : Int32)] m21_ (rv_okl.k z25_) (rv_up.sh z25_) (by decide) (rv_ck_e g20_) ⟨by decide, rfl⟩ (Nat.le_of_ble_eq_true rfl) lVX13_167 rfl (by decide +kernel : decode cX13_readCompare 29 = .ok (.invokevirtual 167, 3)) ?_
        obtain ⟨b_, gb_, h⟩ := rv_b_e h
        obtain ⟨gb1_, gb2_⟩ := rv_bo_e gb_
        refine re_nI (pc := 32) gb1_ ?_
        cases h
        exact re_iret (fun ty hty => by cases hty; exact gb2_) (by decide +kernel : decode cX13_readCompare 32 = .ok (.ireturn, 1))
      · refine re_if_ne_t (pc := 24) 33 (by decide +kernel : decode cX13_readCompare 24 = .ok (.ifCond .ne 9, 3)) (by decide) g18_ ?_
        exact eX13_readCompare_33 n S a0 x1 _ _ h
    · refine re_if_ne_t (pc := 15) 33 (by decide +kernel : decode cX13_readCompare 15 = .ok (.ifCond .ne 18, 3)) (by decide) g12_ ?_
      exact eX13_readCompare_33 n S a0 x1 _ _ h
  · refine re_if_ne_t (pc := 6) 33 (by decide +kernel : decode cX13_readCompare 6 = .ok (.ifCond .ne 27, 3)) (by decide) g6_ ?_
    exact eX13_readCompare_33 n S a0 x1 _ _ h
theorem metX13_readCompare (n : Nat) (S : rvS) (a0 : Nat) (x1 : Int32) (r : Int32) (S' : rvS) (h : fnX13_readCompare n S a0 x1 = some (r, S')) : rv_Met yX13_readCompare mX13_readCompare 3 [.ref a0, .int x1] S (some (.int r)) S' := rv_Met.of ⟨by decide +kernel, rfl, (fun z => by first | rfl | cases z), rfl⟩ (Nat.le_of_ble_eq_true rfl) rfl (eX13_readCompare_in n S a0 x1 r S' h)
