noncomputable def cL_law_244 (n : Nat) (L : Nat) (xs : Nat → Int32) (K23 : Nat → Nat → Nat → Int32 → rvS → Option (Int32 × rvS)) (S : rvS) (a1 : Nat) (a2 : Nat) (a3 : Nat) (x4 : Int32) : Option (Int32 × rvS) :=
  (rv_vl S a1).bind fun _ =>
  (rv_vl S a2).bind fun _ =>
  (rv_vl S a3).bind fun _ =>
  (rv_ix L (x4 + (1 : Int32))).bind fun j4_ =>
  (rv_ix L (x4 + (2 : Int32))).bind fun j7_ =>
  (rv_ix L (x4 + (3 : Int32))).bind fun j10_ =>
  (rv_ix L (x4 + (4 : Int32))).bind fun j13_ =>
  (rv_ix L (x4 + (5 : Int32))).bind fun j16_ =>
  (rv_ck S 10 a1).bind fun u19_ =>
  rv_bp (fnX12_feed n S a1 (xs j4_) (xs j7_) (xs j10_) (xs j13_) (xs j16_)) fun x22_ S23_ =>
  (rv_ix L (x4 + (1 : Int32))).bind fun j29_ =>
  (rv_ix L (x4 + (2 : Int32))).bind fun j32_ =>
  (rv_ix L (x4 + (3 : Int32))).bind fun j35_ =>
  (rv_ix L (x4 + (4 : Int32))).bind fun j38_ =>
  (rv_ix L (x4 + (5 : Int32))).bind fun j41_ =>
  (rv_ck S23_ 11 a2).bind fun u44_ =>
  rv_bp (fnX13_feed n S23_ a2 (xs j29_) (xs j32_) (xs j35_) (xs j38_) (xs j41_)) fun x47_ S48_ =>
  if x22_ = x47_ then (
    rv_lt (x4 + (6)) fun x55_ =>
    K23 a1 a2 a3 x55_ S48_)
  else (
    some ((0 : Int32), S48_))
set_option maxRecDepth 20000 in
set_option maxHeartbeats 4000000 in
theorem eL_law_244 (n : Nat) (L : Nat) (xs : Nat → Int32) (K23 : Nat → Nat → Nat → Int32 → rvS → Option (Int32 × rvS)) (hK23 : ∀ (a1 : Nat) (a2 : Nat) (a3 : Nat) (x4 : Int32) (S : rvS) (r : Int32) (S' : rvS), K23 a1 a2 a3 x4 S = some (r, S') → rv_Ev (mL_law L xs) 200 23 [(0, .ref 25), (1, .ref a1), (2, .ref a2), (3, .ref a3), (4, .int x4)] [] S (some (.int r)) S') (S : rvS) (a1 : Nat) (a2 : Nat) (a3 : Nat) (x4 : Int32) (r : Int32) (S' : rvS) (h : cL_law_244 n L xs K23 S a1 a2 a3 x4 = some (r, S')) : rv_Ev (mL_law L xs) 200 244 [(0, .ref 25), (1, .ref a1), (2, .ref a2), (3, .ref a3), (4, .int x4)] [] S (some (.int r)) S' := by
  unfold cL_law_244 at h
  obtain ⟨_, g1_, h⟩ := rv_b_e h
  obtain ⟨_, g2_, h⟩ := rv_b_e h
  obtain ⟨_, g3_, h⟩ := rv_b_e h
  refine re_aloadn (pc := 244) 1 (by decide +kernel : decode cL_law 244 = .ok (.aload_n 1, 1)) rfl ?_
  refine re_aloadn (pc := 245) 0 (by decide +kernel : decode cL_law 245 = .ok (.aload_n 0, 1)) rfl ?_
  refine re_iload (pc := 246) 4 (by decide +kernel : decode cL_law 246 = .ok (.iload 4, 2)) rfl ?_
  refine re_iconst (pc := 248) (1 : Int32) (by decide +kernel : decode cL_law 248 = .ok (.iconst 1, 1)) (by decide) ?_
  refine re_iadd (pc := 249) (by decide +kernel : decode cL_law 249 = .ok (.iadd, 1)) ?_
  obtain ⟨j4_, g5_, h⟩ := rv_b_e h
  have z6_ := rv_ix_e g5_
  refine re_sld (pc := 250) (L := L) (xs := xs) rfl z6_.1 (by decide +kernel : decode cL_law 250 = .ok (.iaload, 1)) ?_
  refine re_nI (congrArg xs z6_.2.symm) ?_
  refine re_aloadn (pc := 251) 0 (by decide +kernel : decode cL_law 251 = .ok (.aload_n 0, 1)) rfl ?_
  refine re_iload (pc := 252) 4 (by decide +kernel : decode cL_law 252 = .ok (.iload 4, 2)) rfl ?_
  refine re_iconst (pc := 254) (2 : Int32) (by decide +kernel : decode cL_law 254 = .ok (.iconst 2, 1)) (by decide) ?_
  refine re_iadd (pc := 255) (by decide +kernel : decode cL_law 255 = .ok (.iadd, 1)) ?_
  obtain ⟨j7_, g8_, h⟩ := rv_b_e h
  have z9_ := rv_ix_e g8_
  refine re_sld (pc := 256) (L := L) (xs := xs) rfl z9_.1 (by decide +kernel : decode cL_law 256 = .ok (.iaload, 1)) ?_
  refine re_nI (congrArg xs z9_.2.symm) ?_
  refine re_aloadn (pc := 257) 0 (by decide +kernel : decode cL_law 257 = .ok (.aload_n 0, 1)) rfl ?_
  refine re_iload (pc := 258) 4 (by decide +kernel : decode cL_law 258 = .ok (.iload 4, 2)) rfl ?_
  refine re_iconst (pc := 260) (3 : Int32) (by decide +kernel : decode cL_law 260 = .ok (.iconst 3, 1)) (by decide) ?_
  refine re_iadd (pc := 261) (by decide +kernel : decode cL_law 261 = .ok (.iadd, 1)) ?_
  obtain ⟨j10_, g11_, h⟩ := rv_b_e h
  have z12_ := rv_ix_e g11_
  refine re_sld (pc := 262) (L := L) (xs := xs) rfl z12_.1 (by decide +kernel : decode cL_law 262 = .ok (.iaload, 1)) ?_
  refine re_nI (congrArg xs z12_.2.symm) ?_
  refine re_aloadn (pc := 263) 0 (by decide +kernel : decode cL_law 263 = .ok (.aload_n 0, 1)) rfl ?_
  refine re_iload (pc := 264) 4 (by decide +kernel : decode cL_law 264 = .ok (.iload 4, 2)) rfl ?_
  refine re_iconst (pc := 266) (4 : Int32) (by decide +kernel : decode cL_law 266 = .ok (.iconst 4, 1)) (by decide) ?_
  refine re_iadd (pc := 267) (by decide +kernel : decode cL_law 267 = .ok (.iadd, 1)) ?_
  obtain ⟨j13_, g14_, h⟩ := rv_b_e h
  have z15_ := rv_ix_e g14_
  refine re_sld (pc := 268) (L := L) (xs := xs) rfl z15_.1 (by decide +kernel : decode cL_law 268 = .ok (.iaload, 1)) ?_
  refine re_nI (congrArg xs z15_.2.symm) ?_
  refine re_aloadn (pc := 269) 0 (by decide +kernel : decode cL_law 269 = .ok (.aload_n 0, 1)) rfl ?_
  refine re_iload (pc := 270) 4 (by decide +kernel : decode cL_law 270 = .ok (.iload 4, 2)) rfl ?_
  refine re_iconst (pc := 272) (5 : Int32) (by decide +kernel : decode cL_law 272 = .ok (.iconst 5, 1)) (by decide) ?_
  refine re_iadd (pc := 273) (by decide +kernel : decode cL_law 273 = .ok (.iadd, 1)) ?_
  obtain ⟨j16_, g17_, h⟩ := rv_b_e h
  have z18_ := rv_ix_e g17_
  refine re_sld (pc := 274) (L := L) (xs := xs) rfl z18_.1 (by decide +kernel : decode cL_law 274 = .ok (.iaload, 1)) ?_
  refine re_nI (congrArg xs z18_.2.symm) ?_
  obtain ⟨u19_, g20_, h⟩ := rv_b_e h
  obtain ⟨x22_, S23_, g24_, h⟩ := rv_bp_e h
  have m21_ := metX12_feed n S a1 (xs j4_) (xs j7_) (xs j10_) (xs j13_) (xs j16_) _ _ g24_
  have z25_ : rv_same S S23_ := m21_.sh rfl
  have o26_ : a1 < 64 + S23_.1.length := by rw [z25_.1]; exact (rv_vl_e g1_)
  have o27_ : a2 < 64 + S23_.1.length := by rw [z25_.1]; exact (rv_vl_e g2_)
  have o28_ : a3 < 64 + S23_.1.length := by rw [z25_.1]; exact (rv_vl_e g3_)
  refine re_cV (pc := 275) [.int (xs j4_), .int (xs j7_), .int (xs j10_), .int (xs j13_), .int (xs j16_)] m21_ (rv_okl.k z25_) (rv_up.sh z25_) (by decide) (rv_ck_e g20_) ⟨by decide, rfl⟩ (Nat.le_of_ble_eq_true rfl) lVL_25 rfl (by decide +kernel : decode cL_law 275 = .ok (.invokevirtual 25, 3)) ?_
  refine re_aloadn (pc := 278) 2 (by decide +kernel : decode cL_law 278 = .ok (.aload_n 2, 1)) rfl ?_
  refine re_aloadn (pc := 279) 0 (by decide +kernel : decode cL_law 279 = .ok (.aload_n 0, 1)) rfl ?_
  refine re_iload (pc := 280) 4 (by decide +kernel : decode cL_law 280 = .ok (.iload 4, 2)) rfl ?_
  refine re_iconst (pc := 282) (1 : Int32) (by decide +kernel : decode cL_law 282 = .ok (.iconst 1, 1)) (by decide) ?_
  refine re_iadd (pc := 283) (by decide +kernel : decode cL_law 283 = .ok (.iadd, 1)) ?_
  obtain ⟨j29_, g30_, h⟩ := rv_b_e h
  have z31_ := rv_ix_e g30_
  refine re_sld (pc := 284) (L := L) (xs := xs) rfl z31_.1 (by decide +kernel : decode cL_law 284 = .ok (.iaload, 1)) ?_
  refine re_nI (congrArg xs z31_.2.symm) ?_
  refine re_aloadn (pc := 285) 0 (by decide +kernel : decode cL_law 285 = .ok (.aload_n 0, 1)) rfl ?_
  refine re_iload (pc := 286) 4 (by decide +kernel : decode cL_law 286 = .ok (.iload 4, 2)) rfl ?_
  refine re_iconst (pc := 288) (2 : Int32) (by decide +kernel : decode cL_law 288 = .ok (.iconst 2, 1)) (by decide) ?_
  refine re_iadd (pc := 289) (by decide +kernel : decode cL_law 289 = .ok (.iadd, 1)) ?_
  obtain ⟨j32_, g33_, h⟩ := rv_b_e h
  have z34_ := rv_ix_e g33_
  refine re_sld (pc := 290) (L := L) (xs := xs) rfl z34_.1 (by decide +kernel : decode cL_law 290 = .ok (.iaload, 1)) ?_
  refine re_nI (congrArg xs z34_.2.symm) ?_
  refine re_aloadn (pc := 291) 0 (by decide +kernel : decode cL_law 291 = .ok (.aload_n 0, 1)) rfl ?_
  refine re_iload (pc := 292) 4 (by decide +kernel : decode cL_law 292 = .ok (.iload 4, 2)) rfl ?_
  refine re_iconst (pc := 294) (3 : Int32) (by decide +kernel : decode cL_law 294 = .ok (.iconst 3, 1)) (by decide) ?_
  refine re_iadd (pc := 295) (by decide +kernel : decode cL_law 295 = .ok (.iadd, 1)) ?_
  obtain ⟨j35_, g36_, h⟩ := rv_b_e h
  have z37_ := rv_ix_e g36_
  refine re_sld (pc := 296) (L := L) (xs := xs) rfl z37_.1 (by decide +kernel : decode cL_law 296 = .ok (.iaload, 1)) ?_
  refine re_nI (congrArg xs z37_.2.symm) ?_
  refine re_aloadn (pc := 297) 0 (by decide +kernel : decode cL_law 297 = .ok (.aload_n 0, 1)) rfl ?_
  refine re_iload (pc := 298) 4 (by decide +kernel : decode cL_law 298 = .ok (.iload 4, 2)) rfl ?_
  refine re_iconst (pc := 300) (4 : Int32) (by decide +kernel : decode cL_law 300 = .ok (.iconst 4, 1)) (by decide) ?_
  refine re_iadd (pc := 301) (by decide +kernel : decode cL_law 301 = .ok (.iadd, 1)) ?_
  obtain ⟨j38_, g39_, h⟩ := rv_b_e h
  have z40_ := rv_ix_e g39_
  refine re_sld (pc := 302) (L := L) (xs := xs) rfl z40_.1 (by decide +kernel : decode cL_law 302 = .ok (.iaload, 1)) ?_
  refine re_nI (congrArg xs z40_.2.symm) ?_
  refine re_aloadn (pc := 303) 0 (by decide +kernel : decode cL_law 303 = .ok (.aload_n 0, 1)) rfl ?_
  refine re_iload (pc := 304) 4 (by decide +kernel : decode cL_law 304 = .ok (.iload 4, 2)) rfl ?_
  refine re_iconst (pc := 306) (5 : Int32) (by decide +kernel : decode cL_law 306 = .ok (.iconst 5, 1)) (by decide) ?_
  refine re_iadd (pc := 307) (by decide +kernel : decode cL_law 307 = .ok (.iadd, 1)) ?_
  obtain ⟨j41_, g42_, h⟩ := rv_b_e h
  have z43_ := rv_ix_e g42_
  refine re_sld (pc := 308) (L := L) (xs := xs) rfl z43_.1 (by decide +kernel : decode cL_law 308 = .ok (.iaload, 1)) ?_
  refine re_nI (congrArg xs z43_.2.symm) ?_
  obtain ⟨u44_, g45_, h⟩ := rv_b_e h
  obtain ⟨x47_, S48_, g49_, h⟩ := rv_bp_e h
  have m46_ := metX13_feed n S23_ a2 (xs j29_) (xs j32_) (xs j35_) (xs j38_) (xs j41_) _ _ g49_
  have z50_ : rv_same S23_ S48_ := m46_.sh rfl
  have o51_ : a1 < 64 + S48_.1.length := by rw [z50_.1]; exact o26_
  have o52_ : a2 < 64 + S48_.1.length := by rw [z50_.1]; exact o27_
  have o53_ : a3 < 64 + S48_.1.length := by rw [z50_.1]; exact o28_
  refine re_cV (pc := 309) [.int (xs j29_), .int (xs j32_), .int (xs j35_), .int (xs j38_), .int (xs j41_)] m46_ (rv_okl.k z50_) (rv_up.sh z50_) (by decide) (rv_ck_e g45_) ⟨by decide, rfl⟩ (Nat.le_of_ble_eq_true rfl) lVL_29 rfl (by decide +kernel : decode cL_law 309 = .ok (.invokevirtual 29, 3)) ?_
  rcases rv_if_e h with ⟨g54_, h⟩ | ⟨g54_, h⟩
  · refine re_icmp_eq_t (pc := 312) 1836 (by decide +kernel : decode cL_law 312 = .ok (.if_icmp .eq 1524, 3)) (by decide) g54_ ?_
    obtain ⟨x55_, g56_, h⟩ := rv_lt_e h
    refine re_iinc (pc := 1836) 4 x55_ (lv1 := [(4, .int x55_), (0, .ref 25), (1, .ref a1), (2, .ref a2), (3, .ref a3)]) (by decide +kernel : decode cL_law 1836 = .ok (.iinc 4 6, 3)) rfl g56_ (Nat.le_of_ble_eq_true rfl) rfl ?_
    refine re_goto (pc := 1839) 23 (by decide +kernel : decode cL_law 1839 = .ok (.goto (-1816), 3)) (by decide) ?_
    refine re_sub [1, 2, 3, 4, 0] (lv1 := [(0, .ref 25), (1, .ref a1), (2, .ref a2), (3, .ref a3), (4, .int x55_)]) rfl ?_
    exact hK23 a1 a2 a3 x55_ S48_ _ _ h
  · refine re_icmp_eq_f (pc := 312) 1836 (by decide +kernel : decode cL_law 312 = .ok (.if_icmp .eq 1524, 3)) (by decide) g54_ ?_
    refine re_iconst (pc := 315) (0 : Int32) (by decide +kernel : decode cL_law 315 = .ok (.iconst 0, 1)) (by decide) ?_
    cases h
    exact re_iret (fun ty hty => by cases hty; rfl) (by decide +kernel : decode cL_law 316 = .ok (.ireturn, 1))
noncomputable def cL_law_317 (n : Nat) (L : Nat) (xs : Nat → Int32) (K23 : Nat → Nat → Nat → Int32 → rvS → Option (Int32 × rvS)) (S : rvS) (a1 : Nat) (a2 : Nat) (a3 : Nat) (x4 : Int32) : Option (Int32 × rvS) :=
  (rv_vl S a1).bind fun _ =>
  (rv_vl S a2).bind fun _ =>
  (rv_vl S a3).bind fun _ =>
  (rv_ix L (x4 + (1 : Int32))).bind fun j4_ =>
  (rv_ck S 10 a1).bind fun u7_ =>
  rv_bp (fnX12_end n S a1 (xs j4_)) fun x10_ S11_ =>
  (rv_ix L (x4 + (1 : Int32))).bind fun j17_ =>
  (rv_ck S11_ 11 a2).bind fun u20_ =>
  rv_bp (fnX13_end n S11_ a2 (xs j17_)) fun x23_ S24_ =>
  if x10_ = x23_ then (
    rv_lt (x4 + (6)) fun x31_ =>
    K23 a1 a2 a3 x31_ S24_)
  else (
    some ((0 : Int32), S24_))
set_option maxRecDepth 20000 in
set_option maxHeartbeats 4000000 in
theorem eL_law_317 (n : Nat) (L : Nat) (xs : Nat → Int32) (K23 : Nat → Nat → Nat → Int32 → rvS → Option (Int32 × rvS)) (hK23 : ∀ (a1 : Nat) (a2 : Nat) (a3 : Nat) (x4 : Int32) (S : rvS) (r : Int32) (S' : rvS), K23 a1 a2 a3 x4 S = some (r, S') → rv_Ev (mL_law L xs) 200 23 [(0, .ref 25), (1, .ref a1), (2, .ref a2), (3, .ref a3), (4, .int x4)] [] S (some (.int r)) S') (S : rvS) (a1 : Nat) (a2 : Nat) (a3 : Nat) (x4 : Int32) (r : Int32) (S' : rvS) (h : cL_law_317 n L xs K23 S a1 a2 a3 x4 = some (r, S')) : rv_Ev (mL_law L xs) 200 317 [(0, .ref 25), (1, .ref a1), (2, .ref a2), (3, .ref a3), (4, .int x4)] [] S (some (.int r)) S' := by
  unfold cL_law_317 at h
  obtain ⟨_, g1_, h⟩ := rv_b_e h
  obtain ⟨_, g2_, h⟩ := rv_b_e h
  obtain ⟨_, g3_, h⟩ := rv_b_e h
  refine re_aloadn (pc := 317) 1 (by decide +kernel : decode cL_law 317 = .ok (.aload_n 1, 1)) rfl ?_
  refine re_aloadn (pc := 318) 0 (by decide +kernel : decode cL_law 318 = .ok (.aload_n 0, 1)) rfl ?_
  refine re_iload (pc := 319) 4 (by decide +kernel : decode cL_law 319 = .ok (.iload 4, 2)) rfl ?_
  refine re_iconst (pc := 321) (1 : Int32) (by decide +kernel : decode cL_law 321 = .ok (.iconst 1, 1)) (by decide) ?_
  refine re_iadd (pc := 322) (by decide +kernel : decode cL_law 322 = .ok (.iadd, 1)) ?_
  obtain ⟨j4_, g5_, h⟩ := rv_b_e h
  have z6_ := rv_ix_e g5_
  refine re_sld (pc := 323) (L := L) (xs := xs) rfl z6_.1 (by decide +kernel : decode cL_law 323 = .ok (.iaload, 1)) ?_
  refine re_nI (congrArg xs z6_.2.symm) ?_
  obtain ⟨u7_, g8_, h⟩ := rv_b_e h
  obtain ⟨x10_, S11_, g12_, h⟩ := rv_bp_e h
  have m9_ := metX12_end n S a1 (xs j4_) _ _ g12_
  have z13_ : rv_same S S11_ := m9_.sh rfl
  have o14_ : a1 < 64 + S11_.1.length := by rw [z13_.1]; exact (rv_vl_e g1_)
  have o15_ : a2 < 64 + S11_.1.length := by rw [z13_.1]; exact (rv_vl_e g2_)
  have o16_ : a3 < 64 + S11_.1.length := by rw [z13_.1]; exact (rv_vl_e g3_)
  refine re_cV (pc := 324) [.int (xs j4_)] m9_ (rv_okl.k z13_) (rv_up.sh z13_) (by decide) (rv_ck_e g8_) ⟨by decide, rfl⟩ (Nat.le_of_ble_eq_true rfl) lVL_30 rfl (by decide +kernel : decode cL_law 324 = .ok (.invokevirtual 30, 3)) ?_
  refine re_aloadn (pc := 327) 2 (by decide +kernel : decode cL_law 327 = .ok (.aload_n 2, 1)) rfl ?_
  refine re_aloadn (pc := 328) 0 (by decide +kernel : decode cL_law 328 = .ok (.aload_n 0, 1)) rfl ?_
  refine re_iload (pc := 329) 4 (by decide +kernel : decode cL_law 329 = .ok (.iload 4, 2)) rfl ?_
  refine re_iconst (pc := 331) (1 : Int32) (by decide +kernel : decode cL_law 331 = .ok (.iconst 1, 1)) (by decide) ?_
  refine re_iadd (pc := 332) (by decide +kernel : decode cL_law 332 = .ok (.iadd, 1)) ?_
  obtain ⟨j17_, g18_, h⟩ := rv_b_e h
  have z19_ := rv_ix_e g18_
  refine re_sld (pc := 333) (L := L) (xs := xs) rfl z19_.1 (by decide +kernel : decode cL_law 333 = .ok (.iaload, 1)) ?_
  refine re_nI (congrArg xs z19_.2.symm) ?_
  obtain ⟨u20_, g21_, h⟩ := rv_b_e h
  obtain ⟨x23_, S24_, g25_, h⟩ := rv_bp_e h
  have m22_ := metX13_end n S11_ a2 (xs j17_) _ _ g25_
  have z26_ : rv_same S11_ S24_ := m22_.sh rfl
  have o27_ : a1 < 64 + S24_.1.length := by rw [z26_.1]; exact o14_
  have o28_ : a2 < 64 + S24_.1.length := by rw [z26_.1]; exact o15_
  have o29_ : a3 < 64 + S24_.1.length := by rw [z26_.1]; exact o16_
  refine re_cV (pc := 334) [.int (xs j17_)] m22_ (rv_okl.k z26_) (rv_up.sh z26_) (by decide) (rv_ck_e g21_) ⟨by decide, rfl⟩ (Nat.le_of_ble_eq_true rfl) lVL_34 rfl (by decide +kernel : decode cL_law 334 = .ok (.invokevirtual 34, 3)) ?_
  rcases rv_if_e h with ⟨g30_, h⟩ | ⟨g30_, h⟩
  · refine re_icmp_eq_t (pc := 337) 1836 (by decide +kernel : decode cL_law 337 = .ok (.if_icmp .eq 1499, 3)) (by decide) g30_ ?_
    obtain ⟨x31_, g32_, h⟩ := rv_lt_e h
    refine re_iinc (pc := 1836) 4 x31_ (lv1 := [(4, .int x31_), (0, .ref 25), (1, .ref a1), (2, .ref a2), (3, .ref a3)]) (by decide +kernel : decode cL_law 1836 = .ok (.iinc 4 6, 3)) rfl g32_ (Nat.le_of_ble_eq_true rfl) rfl ?_
    refine re_goto (pc := 1839) 23 (by decide +kernel : decode cL_law 1839 = .ok (.goto (-1816), 3)) (by decide) ?_
    refine re_sub [1, 2, 3, 4, 0] (lv1 := [(0, .ref 25), (1, .ref a1), (2, .ref a2), (3, .ref a3), (4, .int x31_)]) rfl ?_
    exact hK23 a1 a2 a3 x31_ S24_ _ _ h
  · refine re_icmp_eq_f (pc := 337) 1836 (by decide +kernel : decode cL_law 337 = .ok (.if_icmp .eq 1499, 3)) (by decide) g30_ ?_
    refine re_iconst (pc := 340) (0 : Int32) (by decide +kernel : decode cL_law 340 = .ok (.iconst 0, 1)) (by decide) ?_
    cases h
    exact re_iret (fun ty hty => by cases hty; rfl) (by decide +kernel : decode cL_law 341 = .ok (.ireturn, 1))
noncomputable def cL_law_342 (n : Nat) (L : Nat) (xs : Nat → Int32) (K23 : Nat → Nat → Nat → Int32 → rvS → Option (Int32 × rvS)) (S : rvS) (a1 : Nat) (a2 : Nat) (a3 : Nat) (x4 : Int32) : Option (Int32 × rvS) :=
  (rv_vl S a1).bind fun _ =>
  (rv_vl S a2).bind fun _ =>
  (rv_vl S a3).bind fun _ =>
  (rv_ck S 10 a1).bind fun u4_ =>
  rv_bp (fnX12_valley n S a1) fun x7_ S8_ =>
  (rv_ck S8_ 11 a2).bind fun u13_ =>
  rv_bp (fnX13_valley n S8_ a2) fun x16_ S17_ =>
  if x7_ = x16_ then (
    rv_lt (x4 + (6)) fun x24_ =>
    K23 a1 a2 a3 x24_ S17_)
  else (
    some ((0 : Int32), S17_))
set_option maxRecDepth 20000 in
set_option maxHeartbeats 4000000 in
theorem eL_law_342 (n : Nat) (L : Nat) (xs : Nat → Int32) (K23 : Nat → Nat → Nat → Int32 → rvS → Option (Int32 × rvS)) (hK23 : ∀ (a1 : Nat) (a2 : Nat) (a3 : Nat) (x4 : Int32) (S : rvS) (r : Int32) (S' : rvS), K23 a1 a2 a3 x4 S = some (r, S') → rv_Ev (mL_law L xs) 200 23 [(0, .ref 25), (1, .ref a1), (2, .ref a2), (3, .ref a3), (4, .int x4)] [] S (some (.int r)) S') (S : rvS) (a1 : Nat) (a2 : Nat) (a3 : Nat) (x4 : Int32) (r : Int32) (S' : rvS) (h : cL_law_342 n L xs K23 S a1 a2 a3 x4 = some (r, S')) : rv_Ev (mL_law L xs) 200 342 [(0, .ref 25), (1, .ref a1), (2, .ref a2), (3, .ref a3), (4, .int x4)] [] S (some (.int r)) S' := by
  unfold cL_law_342 at h
  obtain ⟨_, g1_, h⟩ := rv_b_e h
  obtain ⟨_, g2_, h⟩ := rv_b_e h
  obtain ⟨_, g3_, h⟩ := rv_b_e h
  refine re_aloadn (pc := 342) 1 (by decide +kernel : decode cL_law 342 = .ok (.aload_n 1, 1)) rfl ?_
  obtain ⟨u4_, g5_, h⟩ := rv_b_e h
  obtain ⟨x7_, S8_, g9_, h⟩ := rv_bp_e h
  have m6_ := metX12_valley n S a1 _ _ g9_
  have o10_ : a1 < 64 + S8_.1.length := Nat.lt_of_lt_of_le (rv_vl_e g1_) (Nat.add_le_add_left m6_.1.2.1 64)
  have o11_ : a2 < 64 + S8_.1.length := Nat.lt_of_lt_of_le (rv_vl_e g2_) (Nat.add_le_add_left m6_.1.2.1 64)
  have o12_ : a3 < 64 + S8_.1.length := Nat.lt_of_lt_of_le (rv_vl_e g3_) (Nat.add_le_add_left m6_.1.2.1 64)
  refine re_cV (pc := 343) (st := []) [] m6_ (rv_okl.n (rv_alv (List.forall_mem_cons.mpr ⟨(rv_lo (by decide)), (List.forall_mem_cons.mpr ⟨(rv_vl_e g1_), (List.forall_mem_cons.mpr ⟨(rv_vl_e g2_), (List.forall_mem_cons.mpr ⟨(rv_vl_e g3_), (List.forall_mem_cons.mpr ⟨trivial, (fun _ z => absurd z List.not_mem_nil)⟩)⟩)⟩)⟩)⟩)) ((fun _ z => absurd z List.not_mem_nil))) ⟨fun z => absurd (show true = false from z) (by decide), m6_.1.2⟩ (by decide) (rv_ck_e g5_) ⟨by decide, rfl⟩ (Nat.le_of_ble_eq_true rfl) lVL_35 rfl (by decide +kernel : decode cL_law 343 = .ok (.invokevirtual 35, 3)) ?_
  refine re_aloadn (pc := 346) 2 (by decide +kernel : decode cL_law 346 = .ok (.aload_n 2, 1)) rfl ?_
  obtain ⟨u13_, g14_, h⟩ := rv_b_e h
  obtain ⟨x16_, S17_, g18_, h⟩ := rv_bp_e h
  have m15_ := metX13_valley n S8_ a2 _ _ g18_
  have z19_ : rv_same S8_ S17_ := m15_.sh rfl
  have o20_ : a1 < 64 + S17_.1.length := by rw [z19_.1]; exact o10_
  have o21_ : a2 < 64 + S17_.1.length := by rw [z19_.1]; exact o11_
  have o22_ : a3 < 64 + S17_.1.length := by rw [z19_.1]; exact o12_
  refine re_cV (pc := 347) [] m15_ (rv_okl.k z19_) (rv_up.sh z19_) (by decide) (rv_ck_e g14_) ⟨by decide, rfl⟩ (Nat.le_of_ble_eq_true rfl) lVL_39 rfl (by decide +kernel : decode cL_law 347 = .ok (.invokevirtual 39, 3)) ?_
  rcases rv_if_e h with ⟨g23_, h⟩ | ⟨g23_, h⟩
  · refine re_icmp_eq_t (pc := 350) 1836 (by decide +kernel : decode cL_law 350 = .ok (.if_icmp .eq 1486, 3)) (by decide) g23_ ?_
    obtain ⟨x24_, g25_, h⟩ := rv_lt_e h
    refine re_iinc (pc := 1836) 4 x24_ (lv1 := [(4, .int x24_), (0, .ref 25), (1, .ref a1), (2, .ref a2), (3, .ref a3)]) (by decide +kernel : decode cL_law 1836 = .ok (.iinc 4 6, 3)) rfl g25_ (Nat.le_of_ble_eq_true rfl) rfl ?_
    refine re_goto (pc := 1839) 23 (by decide +kernel : decode cL_law 1839 = .ok (.goto (-1816), 3)) (by decide) ?_
    refine re_sub [1, 2, 3, 4, 0] (lv1 := [(0, .ref 25), (1, .ref a1), (2, .ref a2), (3, .ref a3), (4, .int x24_)]) rfl ?_
    exact hK23 a1 a2 a3 x24_ S17_ _ _ h
  · refine re_icmp_eq_f (pc := 350) 1836 (by decide +kernel : decode cL_law 350 = .ok (.if_icmp .eq 1486, 3)) (by decide) g23_ ?_
    refine re_iconst (pc := 353) (0 : Int32) (by decide +kernel : decode cL_law 353 = .ok (.iconst 0, 1)) (by decide) ?_
    cases h
    exact re_iret (fun ty hty => by cases hty; rfl) (by decide +kernel : decode cL_law 354 = .ok (.ireturn, 1))
noncomputable def cL_law_355 (n : Nat) (L : Nat) (xs : Nat → Int32) (K23 : Nat → Nat → Nat → Int32 → rvS → Option (Int32 × rvS)) (S : rvS) (a1 : Nat) (a2 : Nat) (a3 : Nat) (x4 : Int32) : Option (Int32 × rvS) :=
  (rv_vl S a1).bind fun _ =>
  (rv_vl S a2).bind fun _ =>
  (rv_vl S a3).bind fun _ =>
  (rv_ck S 10 a1).bind fun u4_ =>
  (fnX12_fault n S a1).bind fun x7_ =>
  (rv_ck S 11 a2).bind fun u9_ =>
  rv_bp (fnX13_fault n S a2) fun x12_ S13_ =>
  if x7_ = x12_ then (
    rv_lt (x4 + (6)) fun x20_ =>
    K23 a1 a2 a3 x20_ S13_)
  else (
    some ((0 : Int32), S13_))
set_option maxRecDepth 20000 in
set_option maxHeartbeats 4000000 in
theorem eL_law_355 (n : Nat) (L : Nat) (xs : Nat → Int32) (K23 : Nat → Nat → Nat → Int32 → rvS → Option (Int32 × rvS)) (hK23 : ∀ (a1 : Nat) (a2 : Nat) (a3 : Nat) (x4 : Int32) (S : rvS) (r : Int32) (S' : rvS), K23 a1 a2 a3 x4 S = some (r, S') → rv_Ev (mL_law L xs) 200 23 [(0, .ref 25), (1, .ref a1), (2, .ref a2), (3, .ref a3), (4, .int x4)] [] S (some (.int r)) S') (S : rvS) (a1 : Nat) (a2 : Nat) (a3 : Nat) (x4 : Int32) (r : Int32) (S' : rvS) (h : cL_law_355 n L xs K23 S a1 a2 a3 x4 = some (r, S')) : rv_Ev (mL_law L xs) 200 355 [(0, .ref 25), (1, .ref a1), (2, .ref a2), (3, .ref a3), (4, .int x4)] [] S (some (.int r)) S' := by
  unfold cL_law_355 at h
  obtain ⟨_, g1_, h⟩ := rv_b_e h
  obtain ⟨_, g2_, h⟩ := rv_b_e h
  obtain ⟨_, g3_, h⟩ := rv_b_e h
  refine re_aloadn (pc := 355) 1 (by decide +kernel : decode cL_law 355 = .ok (.aload_n 1, 1)) rfl ?_
  obtain ⟨u4_, g5_, h⟩ := rv_b_e h
  obtain ⟨x7_, g8_, h⟩ := rv_b_e h
  have m6_ := metX12_fault n S a1 _ g8_
  refine re_cV (pc := 356) [] m6_ (rv_okl.k ⟨rfl, rfl⟩) (rv_up.rf _ _) (by decide) (rv_ck_e g5_) ⟨by decide, rfl⟩ (Nat.le_of_ble_eq_true rfl) lVL_40 rfl (by decide +kernel : decode cL_law 356 = .ok (.invokevirtual 40, 3)) ?_
  refine re_aloadn (pc := 359) 2 (by decide +kernel : decode cL_law 359 = .ok (.aload_n 2, 1)) rfl ?_
  obtain ⟨u9_, g10_, h⟩ := rv_b_e h
  obtain ⟨x12_, S13_, g14_, h⟩ := rv_bp_e h
  have m11_ := metX13_fault n S a2 _ _ g14_
  have z15_ : rv_same S S13_ := m11_.sh rfl
  have o16_ : a1 < 64 + S13_.1.length := by rw [z15_.1]; exact (rv_vl_e g1_)
  have o17_ : a2 < 64 + S13_.1.length := by rw [z15_.1]; exact (rv_vl_e g2_)
  have o18_ : a3 < 64 + S13_.1.length := by rw [z15_.1]; exact (rv_vl_e g3_)
  refine re_cV (pc := 360) [] m11_ (rv_okl.k z15_) (rv_up.sh z15_) (by decide) (rv_ck_e g10_) ⟨by decide, rfl⟩ (Nat.le_of_ble_eq_true rfl) lVL_43 rfl (by decide +kernel : decode cL_law 360 = .ok (.invokevirtual 43, 3)) ?_
  rcases rv_if_e h with ⟨g19_, h⟩ | ⟨g19_, h⟩
  · refine re_icmp_eq_t (pc := 363) 1836 (by decide +kernel : decode cL_law 363 = .ok (.if_icmp .eq 1473, 3)) (by decide) g19_ ?_
    obtain ⟨x20_, g21_, h⟩ := rv_lt_e h
    refine re_iinc (pc := 1836) 4 x20_ (lv1 := [(4, .int x20_), (0, .ref 25), (1, .ref a1), (2, .ref a2), (3, .ref a3)]) (by decide +kernel : decode cL_law 1836 = .ok (.iinc 4 6, 3)) rfl g21_ (Nat.le_of_ble_eq_true rfl) rfl ?_
    refine re_goto (pc := 1839) 23 (by decide +kernel : decode cL_law 1839 = .ok (.goto (-1816), 3)) (by decide) ?_
    refine re_sub [1, 2, 3, 4, 0] (lv1 := [(0, .ref 25), (1, .ref a1), (2, .ref a2), (3, .ref a3), (4, .int x20_)]) rfl ?_
    exact hK23 a1 a2 a3 x20_ S13_ _ _ h
  · refine re_icmp_eq_f (pc := 363) 1836 (by decide +kernel : decode cL_law 363 = .ok (.if_icmp .eq 1473, 3)) (by decide) g19_ ?_
    refine re_iconst (pc := 366) (0 : Int32) (by decide +kernel : decode cL_law 366 = .ok (.iconst 0, 1)) (by decide) ?_
    cases h
    exact re_iret (fun ty hty => by cases hty; rfl) (by decide +kernel : decode cL_law 367 = .ok (.ireturn, 1))
noncomputable def cL_law_368 (n : Nat) (L : Nat) (xs : Nat → Int32) (K23 : Nat → Nat → Nat → Int32 → rvS → Option (Int32 × rvS)) (S : rvS) (a1 : Nat) (a2 : Nat) (a3 : Nat) (x4 : Int32) : Option (Int32 × rvS) :=
  (rv_vl S a1).bind fun _ =>
  (rv_vl S a2).bind fun _ =>
  (rv_vl S a3).bind fun _ =>
  (rv_ix L (x4 + (1 : Int32))).bind fun j4_ =>
  (rv_ix L (x4 + (2 : Int32))).bind fun j7_ =>
  rv_bp (fnL_who n S a1 (xs j4_) (xs j7_) a3) fun x10_ S11_ =>
  (rv_ix L (x4 + (1 : Int32))).bind fun j17_ =>
  (rv_ix L (x4 + (2 : Int32))).bind fun j20_ =>
  (rv_ck S11_ 11 a2).bind fun u23_ =>
  rv_bp (fnX13_who n S11_ a2 (xs j17_) (xs j20_)) fun x26_ S27_ =>
  (rv_ck S27_ 11 a2).bind fun u33_ =>
  (fnX13_thrown n S27_ a2).bind fun x36_ =>
  if x36_ = x10_ then (
    if x10_ = 0 then (
      (rv_aL S27_ a3 (0 : Int32)).bind fun x42_ =>
      if (lg_cmp x42_ (x26_.toInt64)) = 0 then (
        rv_lt (x4 + (6)) fun x45_ =>
        K23 a1 a2 a3 x45_ S27_)
      else (
        some ((0 : Int32), S27_)))
    else (
      rv_lt (x4 + (6)) fun x40_ =>
      K23 a1 a2 a3 x40_ S27_))
  else (
    some ((0 : Int32), S27_))
set_option maxRecDepth 20000 in
set_option maxHeartbeats 4000000 in
theorem eL_law_368 (n : Nat) (L : Nat) (xs : Nat → Int32) (K23 : Nat → Nat → Nat → Int32 → rvS → Option (Int32 × rvS)) (hK23 : ∀ (a1 : Nat) (a2 : Nat) (a3 : Nat) (x4 : Int32) (S : rvS) (r : Int32) (S' : rvS), K23 a1 a2 a3 x4 S = some (r, S') → rv_Ev (mL_law L xs) 200 23 [(0, .ref 25), (1, .ref a1), (2, .ref a2), (3, .ref a3), (4, .int x4)] [] S (some (.int r)) S') (S : rvS) (a1 : Nat) (a2 : Nat) (a3 : Nat) (x4 : Int32) (r : Int32) (S' : rvS) (h : cL_law_368 n L xs K23 S a1 a2 a3 x4 = some (r, S')) : rv_Ev (mL_law L xs) 200 368 [(0, .ref 25), (1, .ref a1), (2, .ref a2), (3, .ref a3), (4, .int x4)] [] S (some (.int r)) S' := by
  unfold cL_law_368 at h
  obtain ⟨_, g1_, h⟩ := rv_b_e h
  obtain ⟨_, g2_, h⟩ := rv_b_e h
  obtain ⟨_, g3_, h⟩ := rv_b_e h
  refine re_aloadn (pc := 368) 1 (by decide +kernel : decode cL_law 368 = .ok (.aload_n 1, 1)) rfl ?_
  refine re_aloadn (pc := 369) 0 (by decide +kernel : decode cL_law 369 = .ok (.aload_n 0, 1)) rfl ?_
  refine re_iload (pc := 370) 4 (by decide +kernel : decode cL_law 370 = .ok (.iload 4, 2)) rfl ?_
  refine re_iconst (pc := 372) (1 : Int32) (by decide +kernel : decode cL_law 372 = .ok (.iconst 1, 1)) (by decide) ?_
  refine re_iadd (pc := 373) (by decide +kernel : decode cL_law 373 = .ok (.iadd, 1)) ?_
  obtain ⟨j4_, g5_, h⟩ := rv_b_e h
  have z6_ := rv_ix_e g5_
  refine re_sld (pc := 374) (L := L) (xs := xs) rfl z6_.1 (by decide +kernel : decode cL_law 374 = .ok (.iaload, 1)) ?_
  refine re_nI (congrArg xs z6_.2.symm) ?_
  refine re_aloadn (pc := 375) 0 (by decide +kernel : decode cL_law 375 = .ok (.aload_n 0, 1)) rfl ?_
  refine re_iload (pc := 376) 4 (by decide +kernel : decode cL_law 376 = .ok (.iload 4, 2)) rfl ?_
  refine re_iconst (pc := 378) (2 : Int32) (by decide +kernel : decode cL_law 378 = .ok (.iconst 2, 1)) (by decide) ?_
  refine re_iadd (pc := 379) (by decide +kernel : decode cL_law 379 = .ok (.iadd, 1)) ?_
  obtain ⟨j7_, g8_, h⟩ := rv_b_e h
  have z9_ := rv_ix_e g8_
  refine re_sld (pc := 380) (L := L) (xs := xs) rfl z9_.1 (by decide +kernel : decode cL_law 380 = .ok (.iaload, 1)) ?_
  refine re_nI (congrArg xs z9_.2.symm) ?_
  refine re_aloadn (pc := 381) 3 (by decide +kernel : decode cL_law 381 = .ok (.aload_n 3, 1)) rfl ?_
  obtain ⟨x10_, S11_, g12_, h⟩ := rv_bp_e h
  have m13_ := metL_who n S a1 (xs j4_) (xs j7_) a3 _ _ g12_
  refine re_cW (pc := 382) (st := []) [.ref a1, .int (xs j4_), .int (xs j7_), .ref a3] m13_ (rv_okl.n (rv_alv (List.forall_mem_cons.mpr ⟨(rv_lo (by decide)), (List.forall_mem_cons.mpr ⟨(rv_vl_e g1_), (List.forall_mem_cons.mpr ⟨(rv_vl_e g2_), (List.forall_mem_cons.mpr ⟨(rv_vl_e g3_), (List.forall_mem_cons.mpr ⟨trivial, (fun _ z => absurd z List.not_mem_nil)⟩)⟩)⟩)⟩)⟩)) ((fun _ z => absurd z List.not_mem_nil))) ⟨fun z => absurd (show true = false from z) (by decide), m13_.1.2⟩ (by decide) (Nat.le_of_ble_eq_true rfl) lL_who (rw6 132 (w := Cond.methodLink RL 44 yL_who) (by decide +kernel) rfl) rfl (by decide +kernel : decode cL_law 382 = .ok (.invokestatic 44, 3)) ?_
  have o14_ : a1 < 64 + S11_.1.length := Nat.lt_of_lt_of_le (rv_vl_e g1_) (Nat.add_le_add_left m13_.1.2.1 64)
  have o15_ : a2 < 64 + S11_.1.length := Nat.lt_of_lt_of_le (rv_vl_e g2_) (Nat.add_le_add_left m13_.1.2.1 64)
  have o16_ : a3 < 64 + S11_.1.length := Nat.lt_of_lt_of_le (rv_vl_e g3_) (Nat.add_le_add_left m13_.1.2.1 64)
  refine re_istore (pc := 385) (lv1 := [(5, .int x10_), (0, .ref 25), (1, .ref a1), (2, .ref a2), (3, .ref a3), (4, .int x4)]) (by decide +kernel : decode cL_law 385 = .ok (.istore 5, 2)) (Nat.le_of_ble_eq_true rfl) rfl ?_
  refine re_aloadn (pc := 387) 3 (by decide +kernel : decode cL_law 387 = .ok (.aload_n 2, 1)) rfl ?_
  refine re_aloadn (pc := 388) 1 (by decide +kernel : decode cL_law 388 = .ok (.aload_n 0, 1)) rfl ?_
  refine re_iload (pc := 389) 5 (by decide +kernel : decode cL_law 389 = .ok (.iload 4, 2)) rfl ?_
  refine re_iconst (pc := 391) (1 : Int32) (by decide +kernel : decode cL_law 391 = .ok (.iconst 1, 1)) (by decide) ?_
  refine re_iadd (pc := 392) (by decide +kernel : decode cL_law 392 = .ok (.iadd, 1)) ?_
  obtain ⟨j17_, g18_, h⟩ := rv_b_e h
  have z19_ := rv_ix_e g18_
  refine re_sld (pc := 393) (L := L) (xs := xs) rfl z19_.1 (by decide +kernel : decode cL_law 393 = .ok (.iaload, 1)) ?_
  refine re_nI (congrArg xs z19_.2.symm) ?_
  refine re_aloadn (pc := 394) 1 (by decide +kernel : decode cL_law 394 = .ok (.aload_n 0, 1)) rfl ?_
  refine re_iload (pc := 395) 5 (by decide +kernel : decode cL_law 395 = .ok (.iload 4, 2)) rfl ?_
  refine re_iconst (pc := 397) (2 : Int32) (by decide +kernel : decode cL_law 397 = .ok (.iconst 2, 1)) (by decide) ?_
  refine re_iadd (pc := 398) (by decide +kernel : decode cL_law 398 = .ok (.iadd, 1)) ?_
  obtain ⟨j20_, g21_, h⟩ := rv_b_e h
  have z22_ := rv_ix_e g21_
  refine re_sld (pc := 399) (L := L) (xs := xs) rfl z22_.1 (by decide +kernel : decode cL_law 399 = .ok (.iaload, 1)) ?_
  refine re_nI (congrArg xs z22_.2.symm) ?_
  obtain ⟨u23_, g24_, h⟩ := rv_b_e h
  obtain ⟨x26_, S27_, g28_, h⟩ := rv_bp_e h
  have m25_ := metX13_who n S11_ a2 (xs j17_) (xs j20_) _ _ g28_
  have z29_ : rv_same S11_ S27_ := m25_.sh rfl
  have o30_ : a1 < 64 + S27_.1.length := by rw [z29_.1]; exact o14_
  have o31_ : a2 < 64 + S27_.1.length := by rw [z29_.1]; exact o15_
  have o32_ : a3 < 64 + S27_.1.length := by rw [z29_.1]; exact o16_
  refine re_cV (pc := 400) [.int (xs j17_), .int (xs j20_)] m25_ (rv_okl.k z29_) (rv_up.sh z29_) (by decide) (rv_ck_e g24_) ⟨by decide, rfl⟩ (Nat.le_of_ble_eq_true rfl) lVL_49 rfl (by decide +kernel : decode cL_law 400 = .ok (.invokevirtual 49, 3)) ?_
  refine re_istore (pc := 403) (lv1 := [(6, .int x26_), (5, .int x10_), (0, .ref 25), (1, .ref a1), (2, .ref a2), (3, .ref a3), (4, .int x4)]) (by decide +kernel : decode cL_law 403 = .ok (.istore 6, 2)) (Nat.le_of_ble_eq_true rfl) rfl ?_
  refine re_aloadn (pc := 405) 4 (by decide +kernel : decode cL_law 405 = .ok (.aload_n 2, 1)) rfl ?_
  obtain ⟨u33_, g34_, h⟩ := rv_b_e h
  obtain ⟨x36_, g37_, h⟩ := rv_b_e h
  have m35_ := metX13_thrown n S27_ a2 _ g37_
  refine re_cV (pc := 406) [] m35_ (rv_okl.k ⟨rfl, rfl⟩) (rv_up.rf _ _) (by decide) (rv_ck_e g34_) ⟨by decide, rfl⟩ (Nat.le_of_ble_eq_true rfl) lVL_50 rfl (by decide +kernel : decode cL_law 406 = .ok (.invokevirtual 50, 3)) ?_
  refine re_iload (pc := 409) 1 (by decide +kernel : decode cL_law 409 = .ok (.iload 5, 2)) rfl ?_
  rcases rv_if_e h with ⟨g38_, h⟩ | ⟨g38_, h⟩
  · refine re_icmp_eq_t (pc := 411) 416 (by decide +kernel : decode cL_law 411 = .ok (.if_icmp .eq 5, 3)) (by decide) g38_ ?_
    refine re_iload (pc := 416) 1 (by decide +kernel : decode cL_law 416 = .ok (.iload 5, 2)) rfl ?_
    rcases rv_if_e h with ⟨g39_, h⟩ | ⟨g39_, h⟩
    · refine re_if_ne_f (pc := 418) 433 (by decide +kernel : decode cL_law 418 = .ok (.ifCond .ne 15, 3)) (by decide) g39_ ?_
      refine re_aloadn (pc := 421) 5 (by decide +kernel : decode cL_law 421 = .ok (.aload_n 3, 1)) rfl ?_
      refine re_iconst (pc := 422) (0 : Int32) (by decide +kernel : decode cL_law 422 = .ok (.iconst 0, 1)) (by decide) ?_
      obtain ⟨x42_, g43_, h⟩ := rv_b_e h
      refine re_aL (pc := 423) g43_ (by decide +kernel : decode cL_law 423 = .ok (.laload, 1)) ?_
      refine re_iload (pc := 424) 0 (by decide +kernel : decode cL_law 424 = .ok (.iload 6, 2)) rfl ?_
      refine re_i2l (pc := 426) (by decide +kernel : decode cL_law 426 = .ok (.i2l, 1)) ?_
      refine re_lcmp (pc := 427) (by decide +kernel : decode cL_law 427 = .ok (.lcmp, 1)) ?_
      rcases rv_if_e h with ⟨g44_, h⟩ | ⟨g44_, h⟩
      · refine re_if_eq_t (pc := 428) 433 (by decide +kernel : decode cL_law 428 = .ok (.ifCond .eq 5, 3)) (by decide) g44_ ?_
        refine re_goto (pc := 433) 1836 (by decide +kernel : decode cL_law 433 = .ok (.goto 1403, 3)) (by decide) ?_
        obtain ⟨x45_, g46_, h⟩ := rv_lt_e h
        refine re_iinc (pc := 1836) 6 x45_ (lv1 := [(4, .int x45_), (6, .int x26_), (5, .int x10_), (0, .ref 25), (1, .ref a1), (2, .ref a2), (3, .ref a3)]) (by decide +kernel : decode cL_law 1836 = .ok (.iinc 4 6, 3)) rfl g46_ (Nat.le_of_ble_eq_true rfl) rfl ?_
        refine re_goto (pc := 1839) 23 (by decide +kernel : decode cL_law 1839 = .ok (.goto (-1816), 3)) (by decide) ?_
        refine re_sub [3, 4, 5, 6, 0] (lv1 := [(0, .ref 25), (1, .ref a1), (2, .ref a2), (3, .ref a3), (4, .int x45_)]) rfl ?_
        exact hK23 a1 a2 a3 x45_ S27_ _ _ h
      · refine re_if_eq_f (pc := 428) 433 (by decide +kernel : decode cL_law 428 = .ok (.ifCond .eq 5, 3)) (by decide) g44_ ?_
        refine re_iconst (pc := 431) (0 : Int32) (by decide +kernel : decode cL_law 431 = .ok (.iconst 0, 1)) (by decide) ?_
        cases h
        exact re_iret (fun ty hty => by cases hty; rfl) (by decide +kernel : decode cL_law 432 = .ok (.ireturn, 1))
    · refine re_if_ne_t (pc := 418) 433 (by decide +kernel : decode cL_law 418 = .ok (.ifCond .ne 15, 3)) (by decide) g39_ ?_
      refine re_goto (pc := 433) 1836 (by decide +kernel : decode cL_law 433 = .ok (.goto 1403, 3)) (by decide) ?_
      obtain ⟨x40_, g41_, h⟩ := rv_lt_e h
      refine re_iinc (pc := 1836) 6 x40_ (lv1 := [(4, .int x40_), (6, .int x26_), (5, .int x10_), (0, .ref 25), (1, .ref a1), (2, .ref a2), (3, .ref a3)]) (by decide +kernel : decode cL_law 1836 = .ok (.iinc 4 6, 3)) rfl g41_ (Nat.le_of_ble_eq_true rfl) rfl ?_
      refine re_goto (pc := 1839) 23 (by decide +kernel : decode cL_law 1839 = .ok (.goto (-1816), 3)) (by decide) ?_
      refine re_sub [3, 4, 5, 6, 0] (lv1 := [(0, .ref 25), (1, .ref a1), (2, .ref a2), (3, .ref a3), (4, .int x40_)]) rfl ?_
      exact hK23 a1 a2 a3 x40_ S27_ _ _ h
  · refine re_icmp_eq_f (pc := 411) 416 (by decide +kernel : decode cL_law 411 = .ok (.if_icmp .eq 5, 3)) (by decide) g38_ ?_
    refine re_iconst (pc := 414) (0 : Int32) (by decide +kernel : decode cL_law 414 = .ok (.iconst 0, 1)) (by decide) ?_
    cases h
    exact re_iret (fun ty hty => by cases hty; rfl) (by decide +kernel : decode cL_law 415 = .ok (.ireturn, 1))
noncomputable def cL_law_436 (n : Nat) (L : Nat) (xs : Nat → Int32) (K23 : Nat → Nat → Nat → Int32 → rvS → Option (Int32 × rvS)) (S : rvS) (a1 : Nat) (a2 : Nat) (a3 : Nat) (x4 : Int32) : Option (Int32 × rvS) :=
  (rv_vl S a1).bind fun _ =>
  (rv_vl S a2).bind fun _ =>
  (rv_vl S a3).bind fun _ =>
  (rv_ix L (x4 + (1 : Int32))).bind fun j4_ =>
  (rv_ix L (x4 + (2 : Int32))).bind fun j7_ =>
  rv_bp (fnL_coin n S a1 (xs j4_) (xs j7_) a3) fun x10_ S11_ =>
  (rv_ix L (x4 + (1 : Int32))).bind fun j17_ =>
  (rv_ix L (x4 + (2 : Int32))).bind fun j20_ =>
  (rv_ck S11_ 11 a2).bind fun u23_ =>
  rv_bp (fnX13_coin n S11_ a2 (xs j17_) (xs j20_)) fun x26_ S27_ =>
  (rv_ck S27_ 11 a2).bind fun u33_ =>
  (fnX13_thrown n S27_ a2).bind fun x36_ =>
  if x36_ = x10_ then (
    if x10_ = 0 then (
      (rv_aL S27_ a3 (0 : Int32)).bind fun x42_ =>
      if (lg_cmp x42_ (x26_.toInt64)) = 0 then (
        rv_lt (x4 + (6)) fun x45_ =>
        K23 a1 a2 a3 x45_ S27_)
      else (
        some ((0 : Int32), S27_)))
    else (
      rv_lt (x4 + (6)) fun x40_ =>
      K23 a1 a2 a3 x40_ S27_))
  else (
    some ((0 : Int32), S27_))
set_option maxRecDepth 20000 in
set_option maxHeartbeats 4000000 in
theorem eL_law_436 (n : Nat) (L : Nat) (xs : Nat → Int32) (K23 : Nat → Nat → Nat → Int32 → rvS → Option (Int32 × rvS)) (hK23 : ∀ (a1 : Nat) (a2 : Nat) (a3 : Nat) (x4 : Int32) (S : rvS) (r : Int32) (S' : rvS), K23 a1 a2 a3 x4 S = some (r, S') → rv_Ev (mL_law L xs) 200 23 [(0, .ref 25), (1, .ref a1), (2, .ref a2), (3, .ref a3), (4, .int x4)] [] S (some (.int r)) S') (S : rvS) (a1 : Nat) (a2 : Nat) (a3 : Nat) (x4 : Int32) (r : Int32) (S' : rvS) (h : cL_law_436 n L xs K23 S a1 a2 a3 x4 = some (r, S')) : rv_Ev (mL_law L xs) 200 436 [(0, .ref 25), (1, .ref a1), (2, .ref a2), (3, .ref a3), (4, .int x4)] [] S (some (.int r)) S' := by
  unfold cL_law_436 at h
  obtain ⟨_, g1_, h⟩ := rv_b_e h
  obtain ⟨_, g2_, h⟩ := rv_b_e h
  obtain ⟨_, g3_, h⟩ := rv_b_e h
  refine re_aloadn (pc := 436) 1 (by decide +kernel : decode cL_law 436 = .ok (.aload_n 1, 1)) rfl ?_
  refine re_aloadn (pc := 437) 0 (by decide +kernel : decode cL_law 437 = .ok (.aload_n 0, 1)) rfl ?_
  refine re_iload (pc := 438) 4 (by decide +kernel : decode cL_law 438 = .ok (.iload 4, 2)) rfl ?_
  refine re_iconst (pc := 440) (1 : Int32) (by decide +kernel : decode cL_law 440 = .ok (.iconst 1, 1)) (by decide) ?_
  refine re_iadd (pc := 441) (by decide +kernel : decode cL_law 441 = .ok (.iadd, 1)) ?_
  obtain ⟨j4_, g5_, h⟩ := rv_b_e h
  have z6_ := rv_ix_e g5_
  refine re_sld (pc := 442) (L := L) (xs := xs) rfl z6_.1 (by decide +kernel : decode cL_law 442 = .ok (.iaload, 1)) ?_
  refine re_nI (congrArg xs z6_.2.symm) ?_
  refine re_aloadn (pc := 443) 0 (by decide +kernel : decode cL_law 443 = .ok (.aload_n 0, 1)) rfl ?_
  refine re_iload (pc := 444) 4 (by decide +kernel : decode cL_law 444 = .ok (.iload 4, 2)) rfl ?_
  refine re_iconst (pc := 446) (2 : Int32) (by decide +kernel : decode cL_law 446 = .ok (.iconst 2, 1)) (by decide) ?_
  refine re_iadd (pc := 447) (by decide +kernel : decode cL_law 447 = .ok (.iadd, 1)) ?_
  obtain ⟨j7_, g8_, h⟩ := rv_b_e h
  have z9_ := rv_ix_e g8_
  refine re_sld (pc := 448) (L := L) (xs := xs) rfl z9_.1 (by decide +kernel : decode cL_law 448 = .ok (.iaload, 1)) ?_
  refine re_nI (congrArg xs z9_.2.symm) ?_
  refine re_aloadn (pc := 449) 3 (by decide +kernel : decode cL_law 449 = .ok (.aload_n 3, 1)) rfl ?_
  obtain ⟨x10_, S11_, g12_, h⟩ := rv_bp_e h
  have m13_ := metL_coin n S a1 (xs j4_) (xs j7_) a3 _ _ g12_
  refine re_cW (pc := 450) (st := []) [.ref a1, .int (xs j4_), .int (xs j7_), .ref a3] m13_ (rv_okl.n (rv_alv (List.forall_mem_cons.mpr ⟨(rv_lo (by decide)), (List.forall_mem_cons.mpr ⟨(rv_vl_e g1_), (List.forall_mem_cons.mpr ⟨(rv_vl_e g2_), (List.forall_mem_cons.mpr ⟨(rv_vl_e g3_), (List.forall_mem_cons.mpr ⟨trivial, (fun _ z => absurd z List.not_mem_nil)⟩)⟩)⟩)⟩)⟩)) ((fun _ z => absurd z List.not_mem_nil))) ⟨fun z => absurd (show true = false from z) (by decide), m13_.1.2⟩ (by decide) (Nat.le_of_ble_eq_true rfl) lL_coin (rw6 208 (w := Cond.methodLink RL 53 yL_coin) (by decide +kernel) rfl) rfl (by decide +kernel : decode cL_law 450 = .ok (.invokestatic 53, 3)) ?_
  have o14_ : a1 < 64 + S11_.1.length := Nat.lt_of_lt_of_le (rv_vl_e g1_) (Nat.add_le_add_left m13_.1.2.1 64)
  have o15_ : a2 < 64 + S11_.1.length := Nat.lt_of_lt_of_le (rv_vl_e g2_) (Nat.add_le_add_left m13_.1.2.1 64)
  have o16_ : a3 < 64 + S11_.1.length := Nat.lt_of_lt_of_le (rv_vl_e g3_) (Nat.add_le_add_left m13_.1.2.1 64)
  refine re_istore (pc := 453) (lv1 := [(5, .int x10_), (0, .ref 25), (1, .ref a1), (2, .ref a2), (3, .ref a3), (4, .int x4)]) (by decide +kernel : decode cL_law 453 = .ok (.istore 5, 2)) (Nat.le_of_ble_eq_true rfl) rfl ?_
  refine re_aloadn (pc := 455) 3 (by decide +kernel : decode cL_law 455 = .ok (.aload_n 2, 1)) rfl ?_
  refine re_aloadn (pc := 456) 1 (by decide +kernel : decode cL_law 456 = .ok (.aload_n 0, 1)) rfl ?_
  refine re_iload (pc := 457) 5 (by decide +kernel : decode cL_law 457 = .ok (.iload 4, 2)) rfl ?_
  refine re_iconst (pc := 459) (1 : Int32) (by decide +kernel : decode cL_law 459 = .ok (.iconst 1, 1)) (by decide) ?_
  refine re_iadd (pc := 460) (by decide +kernel : decode cL_law 460 = .ok (.iadd, 1)) ?_
  obtain ⟨j17_, g18_, h⟩ := rv_b_e h
  have z19_ := rv_ix_e g18_
  refine re_sld (pc := 461) (L := L) (xs := xs) rfl z19_.1 (by decide +kernel : decode cL_law 461 = .ok (.iaload, 1)) ?_
  refine re_nI (congrArg xs z19_.2.symm) ?_
  refine re_aloadn (pc := 462) 1 (by decide +kernel : decode cL_law 462 = .ok (.aload_n 0, 1)) rfl ?_
  refine re_iload (pc := 463) 5 (by decide +kernel : decode cL_law 463 = .ok (.iload 4, 2)) rfl ?_
  refine re_iconst (pc := 465) (2 : Int32) (by decide +kernel : decode cL_law 465 = .ok (.iconst 2, 1)) (by decide) ?_
  refine re_iadd (pc := 466) (by decide +kernel : decode cL_law 466 = .ok (.iadd, 1)) ?_
  obtain ⟨j20_, g21_, h⟩ := rv_b_e h
  have z22_ := rv_ix_e g21_
  refine re_sld (pc := 467) (L := L) (xs := xs) rfl z22_.1 (by decide +kernel : decode cL_law 467 = .ok (.iaload, 1)) ?_
  refine re_nI (congrArg xs z22_.2.symm) ?_
  obtain ⟨u23_, g24_, h⟩ := rv_b_e h
  obtain ⟨x26_, S27_, g28_, h⟩ := rv_bp_e h
  have m25_ := metX13_coin n S11_ a2 (xs j17_) (xs j20_) _ _ g28_
  have z29_ : rv_same S11_ S27_ := m25_.sh rfl
  have o30_ : a1 < 64 + S27_.1.length := by rw [z29_.1]; exact o14_
  have o31_ : a2 < 64 + S27_.1.length := by rw [z29_.1]; exact o15_
  have o32_ : a3 < 64 + S27_.1.length := by rw [z29_.1]; exact o16_
  refine re_cV (pc := 468) [.int (xs j17_), .int (xs j20_)] m25_ (rv_okl.k z29_) (rv_up.sh z29_) (by decide) (rv_ck_e g24_) ⟨by decide, rfl⟩ (Nat.le_of_ble_eq_true rfl) lVL_55 rfl (by decide +kernel : decode cL_law 468 = .ok (.invokevirtual 55, 3)) ?_
  refine re_istore (pc := 471) (lv1 := [(6, .int x26_), (5, .int x10_), (0, .ref 25), (1, .ref a1), (2, .ref a2), (3, .ref a3), (4, .int x4)]) (by decide +kernel : decode cL_law 471 = .ok (.istore 6, 2)) (Nat.le_of_ble_eq_true rfl) rfl ?_
  refine re_aloadn (pc := 473) 4 (by decide +kernel : decode cL_law 473 = .ok (.aload_n 2, 1)) rfl ?_
  obtain ⟨u33_, g34_, h⟩ := rv_b_e h
  obtain ⟨x36_, g37_, h⟩ := rv_b_e h
  have m35_ := metX13_thrown n S27_ a2 _ g37_
  refine re_cV (pc := 474) [] m35_ (rv_okl.k ⟨rfl, rfl⟩) (rv_up.rf _ _) (by decide) (rv_ck_e g34_) ⟨by decide, rfl⟩ (Nat.le_of_ble_eq_true rfl) lVL_50 rfl (by decide +kernel : decode cL_law 474 = .ok (.invokevirtual 50, 3)) ?_
  refine re_iload (pc := 477) 1 (by decide +kernel : decode cL_law 477 = .ok (.iload 5, 2)) rfl ?_
  rcases rv_if_e h with ⟨g38_, h⟩ | ⟨g38_, h⟩
  · refine re_icmp_eq_t (pc := 479) 484 (by decide +kernel : decode cL_law 479 = .ok (.if_icmp .eq 5, 3)) (by decide) g38_ ?_
    refine re_iload (pc := 484) 1 (by decide +kernel : decode cL_law 484 = .ok (.iload 5, 2)) rfl ?_
    rcases rv_if_e h with ⟨g39_, h⟩ | ⟨g39_, h⟩
    · refine re_if_ne_f (pc := 486) 501 (by decide +kernel : decode cL_law 486 = .ok (.ifCond .ne 15, 3)) (by decide) g39_ ?_
      refine re_aloadn (pc := 489) 5 (by decide +kernel : decode cL_law 489 = .ok (.aload_n 3, 1)) rfl ?_
      refine re_iconst (pc := 490) (0 : Int32) (by decide +kernel : decode cL_law 490 = .ok (.iconst 0, 1)) (by decide) ?_
      obtain ⟨x42_, g43_, h⟩ := rv_b_e h
      refine re_aL (pc := 491) g43_ (by decide +kernel : decode cL_law 491 = .ok (.laload, 1)) ?_
      refine re_iload (pc := 492) 0 (by decide +kernel : decode cL_law 492 = .ok (.iload 6, 2)) rfl ?_
      refine re_i2l (pc := 494) (by decide +kernel : decode cL_law 494 = .ok (.i2l, 1)) ?_
      refine re_lcmp (pc := 495) (by decide +kernel : decode cL_law 495 = .ok (.lcmp, 1)) ?_
      rcases rv_if_e h with ⟨g44_, h⟩ | ⟨g44_, h⟩
      · refine re_if_eq_t (pc := 496) 501 (by decide +kernel : decode cL_law 496 = .ok (.ifCond .eq 5, 3)) (by decide) g44_ ?_
        refine re_goto (pc := 501) 1836 (by decide +kernel : decode cL_law 501 = .ok (.goto 1335, 3)) (by decide) ?_
        obtain ⟨x45_, g46_, h⟩ := rv_lt_e h
        refine re_iinc (pc := 1836) 6 x45_ (lv1 := [(4, .int x45_), (6, .int x26_), (5, .int x10_), (0, .ref 25), (1, .ref a1), (2, .ref a2), (3, .ref a3)]) (by decide +kernel : decode cL_law 1836 = .ok (.iinc 4 6, 3)) rfl g46_ (Nat.le_of_ble_eq_true rfl) rfl ?_
        refine re_goto (pc := 1839) 23 (by decide +kernel : decode cL_law 1839 = .ok (.goto (-1816), 3)) (by decide) ?_
        refine re_sub [3, 4, 5, 6, 0] (lv1 := [(0, .ref 25), (1, .ref a1), (2, .ref a2), (3, .ref a3), (4, .int x45_)]) rfl ?_
        exact hK23 a1 a2 a3 x45_ S27_ _ _ h
      · refine re_if_eq_f (pc := 496) 501 (by decide +kernel : decode cL_law 496 = .ok (.ifCond .eq 5, 3)) (by decide) g44_ ?_
        refine re_iconst (pc := 499) (0 : Int32) (by decide +kernel : decode cL_law 499 = .ok (.iconst 0, 1)) (by decide) ?_
        cases h
        exact re_iret (fun ty hty => by cases hty; rfl) (by decide +kernel : decode cL_law 500 = .ok (.ireturn, 1))
    · refine re_if_ne_t (pc := 486) 501 (by decide +kernel : decode cL_law 486 = .ok (.ifCond .ne 15, 3)) (by decide) g39_ ?_
      refine re_goto (pc := 501) 1836 (by decide +kernel : decode cL_law 501 = .ok (.goto 1335, 3)) (by decide) ?_
      obtain ⟨x40_, g41_, h⟩ := rv_lt_e h
      refine re_iinc (pc := 1836) 6 x40_ (lv1 := [(4, .int x40_), (6, .int x26_), (5, .int x10_), (0, .ref 25), (1, .ref a1), (2, .ref a2), (3, .ref a3)]) (by decide +kernel : decode cL_law 1836 = .ok (.iinc 4 6, 3)) rfl g41_ (Nat.le_of_ble_eq_true rfl) rfl ?_
      refine re_goto (pc := 1839) 23 (by decide +kernel : decode cL_law 1839 = .ok (.goto (-1816), 3)) (by decide) ?_
      refine re_sub [3, 4, 5, 6, 0] (lv1 := [(0, .ref 25), (1, .ref a1), (2, .ref a2), (3, .ref a3), (4, .int x40_)]) rfl ?_
      exact hK23 a1 a2 a3 x40_ S27_ _ _ h
  · refine re_icmp_eq_f (pc := 479) 484 (by decide +kernel : decode cL_law 479 = .ok (.if_icmp .eq 5, 3)) (by decide) g38_ ?_
    refine re_iconst (pc := 482) (0 : Int32) (by decide +kernel : decode cL_law 482 = .ok (.iconst 0, 1)) (by decide) ?_
    cases h
    exact re_iret (fun ty hty => by cases hty; rfl) (by decide +kernel : decode cL_law 483 = .ok (.ireturn, 1))
noncomputable def cL_law_504 (n : Nat) (L : Nat) (xs : Nat → Int32) (K23 : Nat → Nat → Nat → Int32 → rvS → Option (Int32 × rvS)) (S : rvS) (a1 : Nat) (a2 : Nat) (a3 : Nat) (x4 : Int32) : Option (Int32 × rvS) :=
  (rv_vl S a1).bind fun _ =>
  (rv_vl S a2).bind fun _ =>
  (rv_vl S a3).bind fun _ =>
  (rv_ix L (x4 + (1 : Int32))).bind fun j4_ =>
  (rv_ix L (x4 + (2 : Int32))).bind fun j7_ =>
  (rv_ck S 10 a1).bind fun u10_ =>
  (fnX12_rim n S a1 (xs j4_) (xs j7_)).bind fun x13_ =>
  (rv_ix L (x4 + (1 : Int32))).bind fun j15_ =>
  (rv_ix L (x4 + (2 : Int32))).bind fun j18_ =>
  (rv_ck S 11 a2).bind fun u21_ =>
  rv_bp (fnX13_rim n S a2 (xs j15_) (xs j18_)) fun x24_ S25_ =>
  if x13_ = x24_ then (
    rv_lt (x4 + (6)) fun x32_ =>
    K23 a1 a2 a3 x32_ S25_)
  else (
    some ((0 : Int32), S25_))
set_option maxRecDepth 20000 in
set_option maxHeartbeats 4000000 in
theorem eL_law_504 (n : Nat) (L : Nat) (xs : Nat → Int32) (K23 : Nat → Nat → Nat → Int32 → rvS → Option (Int32 × rvS)) (hK23 : ∀ (a1 : Nat) (a2 : Nat) (a3 : Nat) (x4 : Int32) (S : rvS) (r : Int32) (S' : rvS), K23 a1 a2 a3 x4 S = some (r, S') → rv_Ev (mL_law L xs) 200 23 [(0, .ref 25), (1, .ref a1), (2, .ref a2), (3, .ref a3), (4, .int x4)] [] S (some (.int r)) S') (S : rvS) (a1 : Nat) (a2 : Nat) (a3 : Nat) (x4 : Int32) (r : Int32) (S' : rvS) (h : cL_law_504 n L xs K23 S a1 a2 a3 x4 = some (r, S')) : rv_Ev (mL_law L xs) 200 504 [(0, .ref 25), (1, .ref a1), (2, .ref a2), (3, .ref a3), (4, .int x4)] [] S (some (.int r)) S' := by
  unfold cL_law_504 at h
  obtain ⟨_, g1_, h⟩ := rv_b_e h
  obtain ⟨_, g2_, h⟩ := rv_b_e h
  obtain ⟨_, g3_, h⟩ := rv_b_e h
  refine re_aloadn (pc := 504) 1 (by decide +kernel : decode cL_law 504 = .ok (.aload_n 1, 1)) rfl ?_
  refine re_aloadn (pc := 505) 0 (by decide +kernel : decode cL_law 505 = .ok (.aload_n 0, 1)) rfl ?_
  refine re_iload (pc := 506) 4 (by decide +kernel : decode cL_law 506 = .ok (.iload 4, 2)) rfl ?_
  refine re_iconst (pc := 508) (1 : Int32) (by decide +kernel : decode cL_law 508 = .ok (.iconst 1, 1)) (by decide) ?_
  refine re_iadd (pc := 509) (by decide +kernel : decode cL_law 509 = .ok (.iadd, 1)) ?_
  obtain ⟨j4_, g5_, h⟩ := rv_b_e h
  have z6_ := rv_ix_e g5_
  refine re_sld (pc := 510) (L := L) (xs := xs) rfl z6_.1 (by decide +kernel : decode cL_law 510 = .ok (.iaload, 1)) ?_
  refine re_nI (congrArg xs z6_.2.symm) ?_
  refine re_aloadn (pc := 511) 0 (by decide +kernel : decode cL_law 511 = .ok (.aload_n 0, 1)) rfl ?_
  refine re_iload (pc := 512) 4 (by decide +kernel : decode cL_law 512 = .ok (.iload 4, 2)) rfl ?_
  refine re_iconst (pc := 514) (2 : Int32) (by decide +kernel : decode cL_law 514 = .ok (.iconst 2, 1)) (by decide) ?_
  refine re_iadd (pc := 515) (by decide +kernel : decode cL_law 515 = .ok (.iadd, 1)) ?_
  obtain ⟨j7_, g8_, h⟩ := rv_b_e h
  have z9_ := rv_ix_e g8_
  refine re_sld (pc := 516) (L := L) (xs := xs) rfl z9_.1 (by decide +kernel : decode cL_law 516 = .ok (.iaload, 1)) ?_
  refine re_nI (congrArg xs z9_.2.symm) ?_
  obtain ⟨u10_, g11_, h⟩ := rv_b_e h
  obtain ⟨x13_, g14_, h⟩ := rv_b_e h
  have m12_ := metX12_rim n S a1 (xs j4_) (xs j7_) _ g14_
  refine re_cV (pc := 517) [.int (xs j4_), .int (xs j7_)] m12_ (rv_okl.k ⟨rfl, rfl⟩) (rv_up.rf _ _) (by decide) (rv_ck_e g11_) ⟨by decide, rfl⟩ (Nat.le_of_ble_eq_true rfl) lVL_56 rfl (by decide +kernel : decode cL_law 517 = .ok (.invokevirtual 56, 3)) ?_
  refine re_aloadn (pc := 520) 2 (by decide +kernel : decode cL_law 520 = .ok (.aload_n 2, 1)) rfl ?_
  refine re_aloadn (pc := 521) 0 (by decide +kernel : decode cL_law 521 = .ok (.aload_n 0, 1)) rfl ?_
  refine re_iload (pc := 522) 4 (by decide +kernel : decode cL_law 522 = .ok (.iload 4, 2)) rfl ?_
  refine re_iconst (pc := 524) (1 : Int32) (by decide +kernel : decode cL_law 524 = .ok (.iconst 1, 1)) (by decide) ?_
  refine re_iadd (pc := 525) (by decide +kernel : decode cL_law 525 = .ok (.iadd, 1)) ?_
  obtain ⟨j15_, g16_, h⟩ := rv_b_e h
  have z17_ := rv_ix_e g16_
  refine re_sld (pc := 526) (L := L) (xs := xs) rfl z17_.1 (by decide +kernel : decode cL_law 526 = .ok (.iaload, 1)) ?_
  refine re_nI (congrArg xs z17_.2.symm) ?_
  refine re_aloadn (pc := 527) 0 (by decide +kernel : decode cL_law 527 = .ok (.aload_n 0, 1)) rfl ?_
  refine re_iload (pc := 528) 4 (by decide +kernel : decode cL_law 528 = .ok (.iload 4, 2)) rfl ?_
  refine re_iconst (pc := 530) (2 : Int32) (by decide +kernel : decode cL_law 530 = .ok (.iconst 2, 1)) (by decide) ?_
  refine re_iadd (pc := 531) (by decide +kernel : decode cL_law 531 = .ok (.iadd, 1)) ?_
  obtain ⟨j18_, g19_, h⟩ := rv_b_e h
  have z20_ := rv_ix_e g19_
  refine re_sld (pc := 532) (L := L) (xs := xs) rfl z20_.1 (by decide +kernel : decode cL_law 532 = .ok (.iaload, 1)) ?_
  refine re_nI (congrArg xs z20_.2.symm) ?_
  obtain ⟨u21_, g22_, h⟩ := rv_b_e h
  obtain ⟨x24_, S25_, g26_, h⟩ := rv_bp_e h
  have m23_ := metX13_rim n S a2 (xs j15_) (xs j18_) _ _ g26_
  have z27_ : rv_same S S25_ := m23_.sh rfl
  have o28_ : a1 < 64 + S25_.1.length := by rw [z27_.1]; exact (rv_vl_e g1_)
  have o29_ : a2 < 64 + S25_.1.length := by rw [z27_.1]; exact (rv_vl_e g2_)
  have o30_ : a3 < 64 + S25_.1.length := by rw [z27_.1]; exact (rv_vl_e g3_)
  refine re_cV (pc := 533) [.int (xs j15_), .int (xs j18_)] m23_ (rv_okl.k z27_) (rv_up.sh z27_) (by decide) (rv_ck_e g22_) ⟨by decide, rfl⟩ (Nat.le_of_ble_eq_true rfl) lVL_59 rfl (by decide +kernel : decode cL_law 533 = .ok (.invokevirtual 59, 3)) ?_
  rcases rv_if_e h with ⟨g31_, h⟩ | ⟨g31_, h⟩
  · refine re_icmp_eq_t (pc := 536) 1836 (by decide +kernel : decode cL_law 536 = .ok (.if_icmp .eq 1300, 3)) (by decide) g31_ ?_
    obtain ⟨x32_, g33_, h⟩ := rv_lt_e h
    refine re_iinc (pc := 1836) 4 x32_ (lv1 := [(4, .int x32_), (0, .ref 25), (1, .ref a1), (2, .ref a2), (3, .ref a3)]) (by decide +kernel : decode cL_law 1836 = .ok (.iinc 4 6, 3)) rfl g33_ (Nat.le_of_ble_eq_true rfl) rfl ?_
    refine re_goto (pc := 1839) 23 (by decide +kernel : decode cL_law 1839 = .ok (.goto (-1816), 3)) (by decide) ?_
    refine re_sub [1, 2, 3, 4, 0] (lv1 := [(0, .ref 25), (1, .ref a1), (2, .ref a2), (3, .ref a3), (4, .int x32_)]) rfl ?_
    exact hK23 a1 a2 a3 x32_ S25_ _ _ h
  · refine re_icmp_eq_f (pc := 536) 1836 (by decide +kernel : decode cL_law 536 = .ok (.if_icmp .eq 1300, 3)) (by decide) g31_ ?_
    refine re_iconst (pc := 539) (0 : Int32) (by decide +kernel : decode cL_law 539 = .ok (.iconst 0, 1)) (by decide) ?_
    cases h
    exact re_iret (fun ty hty => by cases hty; rfl) (by decide +kernel : decode cL_law 540 = .ok (.ireturn, 1))
noncomputable def cL_law_541 (n : Nat) (L : Nat) (xs : Nat → Int32) (K23 : Nat → Nat → Nat → Int32 → rvS → Option (Int32 × rvS)) (S : rvS) (a1 : Nat) (a2 : Nat) (a3 : Nat) (x4 : Int32) : Option (Int32 × rvS) :=
  (rv_vl S a1).bind fun _ =>
  (rv_vl S a2).bind fun _ =>
  (rv_vl S a3).bind fun _ =>
  (rv_ix L (x4 + (1 : Int32))).bind fun j4_ =>
  (rv_ix L (x4 + (2 : Int32))).bind fun j7_ =>
  (rv_ck S 10 a1).bind fun u10_ =>
  (fnX12_near n S a1 (xs j4_) (xs j7_)).bind fun x13_ =>
  (rv_ix L (x4 + (1 : Int32))).bind fun j15_ =>
  (rv_ix L (x4 + (2 : Int32))).bind fun j18_ =>
  (rv_ck S 11 a2).bind fun u21_ =>
  rv_bp (fnX13_near n S a2 (xs j15_) (xs j18_)) fun x24_ S25_ =>
  if x13_ = x24_ then (
    rv_lt (x4 + (6)) fun x32_ =>
    K23 a1 a2 a3 x32_ S25_)
  else (
    some ((0 : Int32), S25_))
set_option maxRecDepth 20000 in
set_option maxHeartbeats 4000000 in
theorem eL_law_541 (n : Nat) (L : Nat) (xs : Nat → Int32) (K23 : Nat → Nat → Nat → Int32 → rvS → Option (Int32 × rvS)) (hK23 : ∀ (a1 : Nat) (a2 : Nat) (a3 : Nat) (x4 : Int32) (S : rvS) (r : Int32) (S' : rvS), K23 a1 a2 a3 x4 S = some (r, S') → rv_Ev (mL_law L xs) 200 23 [(0, .ref 25), (1, .ref a1), (2, .ref a2), (3, .ref a3), (4, .int x4)] [] S (some (.int r)) S') (S : rvS) (a1 : Nat) (a2 : Nat) (a3 : Nat) (x4 : Int32) (r : Int32) (S' : rvS) (h : cL_law_541 n L xs K23 S a1 a2 a3 x4 = some (r, S')) : rv_Ev (mL_law L xs) 200 541 [(0, .ref 25), (1, .ref a1), (2, .ref a2), (3, .ref a3), (4, .int x4)] [] S (some (.int r)) S' := by
  unfold cL_law_541 at h
  obtain ⟨_, g1_, h⟩ := rv_b_e h
  obtain ⟨_, g2_, h⟩ := rv_b_e h
  obtain ⟨_, g3_, h⟩ := rv_b_e h
  refine re_aloadn (pc := 541) 1 (by decide +kernel : decode cL_law 541 = .ok (.aload_n 1, 1)) rfl ?_
  refine re_aloadn (pc := 542) 0 (by decide +kernel : decode cL_law 542 = .ok (.aload_n 0, 1)) rfl ?_
  refine re_iload (pc := 543) 4 (by decide +kernel : decode cL_law 543 = .ok (.iload 4, 2)) rfl ?_
  refine re_iconst (pc := 545) (1 : Int32) (by decide +kernel : decode cL_law 545 = .ok (.iconst 1, 1)) (by decide) ?_
  refine re_iadd (pc := 546) (by decide +kernel : decode cL_law 546 = .ok (.iadd, 1)) ?_
  obtain ⟨j4_, g5_, h⟩ := rv_b_e h
  have z6_ := rv_ix_e g5_
  refine re_sld (pc := 547) (L := L) (xs := xs) rfl z6_.1 (by decide +kernel : decode cL_law 547 = .ok (.iaload, 1)) ?_
  refine re_nI (congrArg xs z6_.2.symm) ?_
  refine re_aloadn (pc := 548) 0 (by decide +kernel : decode cL_law 548 = .ok (.aload_n 0, 1)) rfl ?_
  refine re_iload (pc := 549) 4 (by decide +kernel : decode cL_law 549 = .ok (.iload 4, 2)) rfl ?_
  refine re_iconst (pc := 551) (2 : Int32) (by decide +kernel : decode cL_law 551 = .ok (.iconst 2, 1)) (by decide) ?_
  refine re_iadd (pc := 552) (by decide +kernel : decode cL_law 552 = .ok (.iadd, 1)) ?_
  obtain ⟨j7_, g8_, h⟩ := rv_b_e h
  have z9_ := rv_ix_e g8_
  refine re_sld (pc := 553) (L := L) (xs := xs) rfl z9_.1 (by decide +kernel : decode cL_law 553 = .ok (.iaload, 1)) ?_
  refine re_nI (congrArg xs z9_.2.symm) ?_
  obtain ⟨u10_, g11_, h⟩ := rv_b_e h
  obtain ⟨x13_, g14_, h⟩ := rv_b_e h
  have m12_ := metX12_near n S a1 (xs j4_) (xs j7_) _ g14_
  refine re_cV (pc := 554) [.int (xs j4_), .int (xs j7_)] m12_ (rv_okl.k ⟨rfl, rfl⟩) (rv_up.rf _ _) (by decide) (rv_ck_e g11_) ⟨by decide, rfl⟩ (Nat.le_of_ble_eq_true rfl) lVL_60 rfl (by decide +kernel : decode cL_law 554 = .ok (.invokevirtual 60, 3)) ?_
  refine re_aloadn (pc := 557) 2 (by decide +kernel : decode cL_law 557 = .ok (.aload_n 2, 1)) rfl ?_
  refine re_aloadn (pc := 558) 0 (by decide +kernel : decode cL_law 558 = .ok (.aload_n 0, 1)) rfl ?_
  refine re_iload (pc := 559) 4 (by decide +kernel : decode cL_law 559 = .ok (.iload 4, 2)) rfl ?_
  refine re_iconst (pc := 561) (1 : Int32) (by decide +kernel : decode cL_law 561 = .ok (.iconst 1, 1)) (by decide) ?_
  refine re_iadd (pc := 562) (by decide +kernel : decode cL_law 562 = .ok (.iadd, 1)) ?_
  obtain ⟨j15_, g16_, h⟩ := rv_b_e h
  have z17_ := rv_ix_e g16_
  refine re_sld (pc := 563) (L := L) (xs := xs) rfl z17_.1 (by decide +kernel : decode cL_law 563 = .ok (.iaload, 1)) ?_
  refine re_nI (congrArg xs z17_.2.symm) ?_
  refine re_aloadn (pc := 564) 0 (by decide +kernel : decode cL_law 564 = .ok (.aload_n 0, 1)) rfl ?_
  refine re_iload (pc := 565) 4 (by decide +kernel : decode cL_law 565 = .ok (.iload 4, 2)) rfl ?_
  refine re_iconst (pc := 567) (2 : Int32) (by decide +kernel : decode cL_law 567 = .ok (.iconst 2, 1)) (by decide) ?_
  refine re_iadd (pc := 568) (by decide +kernel : decode cL_law 568 = .ok (.iadd, 1)) ?_
  obtain ⟨j18_, g19_, h⟩ := rv_b_e h
  have z20_ := rv_ix_e g19_
  refine re_sld (pc := 569) (L := L) (xs := xs) rfl z20_.1 (by decide +kernel : decode cL_law 569 = .ok (.iaload, 1)) ?_
  refine re_nI (congrArg xs z20_.2.symm) ?_
  obtain ⟨u21_, g22_, h⟩ := rv_b_e h
  obtain ⟨x24_, S25_, g26_, h⟩ := rv_bp_e h
  have m23_ := metX13_near n S a2 (xs j15_) (xs j18_) _ _ g26_
  have z27_ : rv_same S S25_ := m23_.sh rfl
  have o28_ : a1 < 64 + S25_.1.length := by rw [z27_.1]; exact (rv_vl_e g1_)
  have o29_ : a2 < 64 + S25_.1.length := by rw [z27_.1]; exact (rv_vl_e g2_)
  have o30_ : a3 < 64 + S25_.1.length := by rw [z27_.1]; exact (rv_vl_e g3_)
  refine re_cV (pc := 570) [.int (xs j15_), .int (xs j18_)] m23_ (rv_okl.k z27_) (rv_up.sh z27_) (by decide) (rv_ck_e g22_) ⟨by decide, rfl⟩ (Nat.le_of_ble_eq_true rfl) lVL_63 rfl (by decide +kernel : decode cL_law 570 = .ok (.invokevirtual 63, 3)) ?_
  rcases rv_if_e h with ⟨g31_, h⟩ | ⟨g31_, h⟩
  · refine re_icmp_eq_t (pc := 573) 1836 (by decide +kernel : decode cL_law 573 = .ok (.if_icmp .eq 1263, 3)) (by decide) g31_ ?_
    obtain ⟨x32_, g33_, h⟩ := rv_lt_e h
    refine re_iinc (pc := 1836) 4 x32_ (lv1 := [(4, .int x32_), (0, .ref 25), (1, .ref a1), (2, .ref a2), (3, .ref a3)]) (by decide +kernel : decode cL_law 1836 = .ok (.iinc 4 6, 3)) rfl g33_ (Nat.le_of_ble_eq_true rfl) rfl ?_
    refine re_goto (pc := 1839) 23 (by decide +kernel : decode cL_law 1839 = .ok (.goto (-1816), 3)) (by decide) ?_
    refine re_sub [1, 2, 3, 4, 0] (lv1 := [(0, .ref 25), (1, .ref a1), (2, .ref a2), (3, .ref a3), (4, .int x32_)]) rfl ?_
    exact hK23 a1 a2 a3 x32_ S25_ _ _ h
  · refine re_icmp_eq_f (pc := 573) 1836 (by decide +kernel : decode cL_law 573 = .ok (.if_icmp .eq 1263, 3)) (by decide) g31_ ?_
    refine re_iconst (pc := 576) (0 : Int32) (by decide +kernel : decode cL_law 576 = .ok (.iconst 0, 1)) (by decide) ?_
    cases h
    exact re_iret (fun ty hty => by cases hty; rfl) (by decide +kernel : decode cL_law 577 = .ok (.ireturn, 1))
noncomputable def cL_law_578 (n : Nat) (L : Nat) (xs : Nat → Int32) (K23 : Nat → Nat → Nat → Int32 → rvS → Option (Int32 × rvS)) (S : rvS) (a1 : Nat) (a2 : Nat) (a3 : Nat) (x4 : Int32) : Option (Int32 × rvS) :=
  (rv_vl S a1).bind fun _ =>
  (rv_vl S a2).bind fun _ =>
  (rv_vl S a3).bind fun _ =>
  (rv_ix L (x4 + (1 : Int32))).bind fun j4_ =>
  (rv_ix L (x4 + (2 : Int32))).bind fun j7_ =>
  (rv_ck S 10 a1).bind fun u10_ =>
  rv_bp (fnX12_road n S a1 (xs j4_) (xs j7_)) fun x13_ S14_ =>
  (rv_ix L (x4 + (1 : Int32))).bind fun j20_ =>
  (rv_ix L (x4 + (2 : Int32))).bind fun j23_ =>
  (rv_ck S14_ 11 a2).bind fun u26_ =>
  rv_bp (fnX13_road n S14_ a2 (xs j20_) (xs j23_)) fun x29_ S30_ =>
  if x13_ = x29_ then (
    rv_lt (x4 + (6)) fun x37_ =>
    K23 a1 a2 a3 x37_ S30_)
  else (
    some ((0 : Int32), S30_))
set_option maxRecDepth 20000 in
set_option maxHeartbeats 4000000 in
theorem eL_law_578 (n : Nat) (L : Nat) (xs : Nat → Int32) (K23 : Nat → Nat → Nat → Int32 → rvS → Option (Int32 × rvS)) (hK23 : ∀ (a1 : Nat) (a2 : Nat) (a3 : Nat) (x4 : Int32) (S : rvS) (r : Int32) (S' : rvS), K23 a1 a2 a3 x4 S = some (r, S') → rv_Ev (mL_law L xs) 200 23 [(0, .ref 25), (1, .ref a1), (2, .ref a2), (3, .ref a3), (4, .int x4)] [] S (some (.int r)) S') (S : rvS) (a1 : Nat) (a2 : Nat) (a3 : Nat) (x4 : Int32) (r : Int32) (S' : rvS) (h : cL_law_578 n L xs K23 S a1 a2 a3 x4 = some (r, S')) : rv_Ev (mL_law L xs) 200 578 [(0, .ref 25), (1, .ref a1), (2, .ref a2), (3, .ref a3), (4, .int x4)] [] S (some (.int r)) S' := by
  unfold cL_law_578 at h
  obtain ⟨_, g1_, h⟩ := rv_b_e h
  obtain ⟨_, g2_, h⟩ := rv_b_e h
  obtain ⟨_, g3_, h⟩ := rv_b_e h
  refine re_aloadn (pc := 578) 1 (by decide +kernel : decode cL_law 578 = .ok (.aload_n 1, 1)) rfl ?_
  refine re_aloadn (pc := 579) 0 (by decide +kernel : decode cL_law 579 = .ok (.aload_n 0, 1)) rfl ?_
  refine re_iload (pc := 580) 4 (by decide +kernel : decode cL_law 580 = .ok (.iload 4, 2)) rfl ?_
  refine re_iconst (pc := 582) (1 : Int32) (by decide +kernel : decode cL_law 582 = .ok (.iconst 1, 1)) (by decide) ?_
  refine re_iadd (pc := 583) (by decide +kernel : decode cL_law 583 = .ok (.iadd, 1)) ?_
  obtain ⟨j4_, g5_, h⟩ := rv_b_e h
  have z6_ := rv_ix_e g5_
  refine re_sld (pc := 584) (L := L) (xs := xs) rfl z6_.1 (by decide +kernel : decode cL_law 584 = .ok (.iaload, 1)) ?_
  refine re_nI (congrArg xs z6_.2.symm) ?_
  refine re_aloadn (pc := 585) 0 (by decide +kernel : decode cL_law 585 = .ok (.aload_n 0, 1)) rfl ?_
  refine re_iload (pc := 586) 4 (by decide +kernel : decode cL_law 586 = .ok (.iload 4, 2)) rfl ?_
  refine re_iconst (pc := 588) (2 : Int32) (by decide +kernel : decode cL_law 588 = .ok (.iconst 2, 1)) (by decide) ?_
  refine re_iadd (pc := 589) (by decide +kernel : decode cL_law 589 = .ok (.iadd, 1)) ?_
  obtain ⟨j7_, g8_, h⟩ := rv_b_e h
  have z9_ := rv_ix_e g8_
  refine re_sld (pc := 590) (L := L) (xs := xs) rfl z9_.1 (by decide +kernel : decode cL_law 590 = .ok (.iaload, 1)) ?_
  refine re_nI (congrArg xs z9_.2.symm) ?_
  obtain ⟨u10_, g11_, h⟩ := rv_b_e h
  obtain ⟨x13_, S14_, g15_, h⟩ := rv_bp_e h
  have m12_ := metX12_road n S a1 (xs j4_) (xs j7_) _ _ g15_
  have z16_ : rv_same S S14_ := m12_.sh rfl
  have o17_ : a1 < 64 + S14_.1.length := by rw [z16_.1]; exact (rv_vl_e g1_)
  have o18_ : a2 < 64 + S14_.1.length := by rw [z16_.1]; exact (rv_vl_e g2_)
  have o19_ : a3 < 64 + S14_.1.length := by rw [z16_.1]; exact (rv_vl_e g3_)
  refine re_cV (pc := 591) [.int (xs j4_), .int (xs j7_)] m12_ (rv_okl.k z16_) (rv_up.sh z16_) (by decide) (rv_ck_e g11_) ⟨by decide, rfl⟩ (Nat.le_of_ble_eq_true rfl) lVL_64 rfl (by decide +kernel : decode cL_law 591 = .ok (.invokevirtual 64, 3)) ?_
  refine re_aloadn (pc := 594) 2 (by decide +kernel : decode cL_law 594 = .ok (.aload_n 2, 1)) rfl ?_
  refine re_aloadn (pc := 595) 0 (by decide +kernel : decode cL_law 595 = .ok (.aload_n 0, 1)) rfl ?_
  refine re_iload (pc := 596) 4 (by decide +kernel : decode cL_law 596 = .ok (.iload 4, 2)) rfl ?_
  refine re_iconst (pc := 598) (1 : Int32) (by decide +kernel : decode cL_law 598 = .ok (.iconst 1, 1)) (by decide) ?_
  refine re_iadd (pc := 599) (by decide +kernel : decode cL_law 599 = .ok (.iadd, 1)) ?_
  obtain ⟨j20_, g21_, h⟩ := rv_b_e h
  have z22_ := rv_ix_e g21_
  refine re_sld (pc := 600) (L := L) (xs := xs) rfl z22_.1 (by decide +kernel : decode cL_law 600 = .ok (.iaload, 1)) ?_
  refine re_nI (congrArg xs z22_.2.symm) ?_
  refine re_aloadn (pc := 601) 0 (by decide +kernel : decode cL_law 601 = .ok (.aload_n 0, 1)) rfl ?_
  refine re_iload (pc := 602) 4 (by decide +kernel : decode cL_law 602 = .ok (.iload 4, 2)) rfl ?_
  refine re_iconst (pc := 604) (2 : Int32) (by decide +kernel : decode cL_law 604 = .ok (.iconst 2, 1)) (by decide) ?_
  refine re_iadd (pc := 605) (by decide +kernel : decode cL_law 605 = .ok (.iadd, 1)) ?_
  obtain ⟨j23_, g24_, h⟩ := rv_b_e h
  have z25_ := rv_ix_e g24_
  refine re_sld (pc := 606) (L := L) (xs := xs) rfl z25_.1 (by decide +kernel : decode cL_law 606 = .ok (.iaload, 1)) ?_
  refine re_nI (congrArg xs z25_.2.symm) ?_
  obtain ⟨u26_, g27_, h⟩ := rv_b_e h
  obtain ⟨x29_, S30_, g31_, h⟩ := rv_bp_e h
  have m28_ := metX13_road n S14_ a2 (xs j20_) (xs j23_) _ _ g31_
  have z32_ : rv_same S14_ S30_ := m28_.sh rfl
  have o33_ : a1 < 64 + S30_.1.length := by rw [z32_.1]; exact o17_
  have o34_ : a2 < 64 + S30_.1.length := by rw [z32_.1]; exact o18_
  have o35_ : a3 < 64 + S30_.1.length := by rw [z32_.1]; exact o19_
  refine re_cV (pc := 607) [.int (xs j20_), .int (xs j23_)] m28_ (rv_okl.k z32_) (rv_up.sh z32_) (by decide) (rv_ck_e g27_) ⟨by decide, rfl⟩ (Nat.le_of_ble_eq_true rfl) lVL_68 rfl (by decide +kernel : decode cL_law 607 = .ok (.invokevirtual 68, 3)) ?_
  rcases rv_if_e h with ⟨g36_, h⟩ | ⟨g36_, h⟩
  · refine re_icmp_eq_t (pc := 610) 1836 (by decide +kernel : decode cL_law 610 = .ok (.if_icmp .eq 1226, 3)) (by decide) g36_ ?_
    obtain ⟨x37_, g38_, h⟩ := rv_lt_e h
    refine re_iinc (pc := 1836) 4 x37_ (lv1 := [(4, .int x37_), (0, .ref 25), (1, .ref a1), (2, .ref a2), (3, .ref a3)]) (by decide +kernel : decode cL_law 1836 = .ok (.iinc 4 6, 3)) rfl g38_ (Nat.le_of_ble_eq_true rfl) rfl ?_
    refine re_goto (pc := 1839) 23 (by decide +kernel : decode cL_law 1839 = .ok (.goto (-1816), 3)) (by decide) ?_
    refine re_sub [1, 2, 3, 4, 0] (lv1 := [(0, .ref 25), (1, .ref a1), (2, .ref a2), (3, .ref a3), (4, .int x37_)]) rfl ?_
    exact hK23 a1 a2 a3 x37_ S30_ _ _ h
  · refine re_icmp_eq_f (pc := 610) 1836 (by decide +kernel : decode cL_law 610 = .ok (.if_icmp .eq 1226, 3)) (by decide) g36_ ?_
    refine re_iconst (pc := 613) (0 : Int32) (by decide +kernel : decode cL_law 613 = .ok (.iconst 0, 1)) (by decide) ?_
    cases h
    exact re_iret (fun ty hty => by cases hty; rfl) (by decide +kernel : decode cL_law 614 = .ok (.ireturn, 1))
noncomputable def cL_law_615 (n : Nat) (L : Nat) (xs : Nat → Int32) (K23 : Nat → Nat → Nat → Int32 → rvS → Option (Int32 × rvS)) (S : rvS) (a1 : Nat) (a2 : Nat) (a3 : Nat) (x4 : Int32) : Option (Int32 × rvS) :=
  (rv_vl S a1).bind fun _ =>
  (rv_vl S a2).bind fun _ =>
  (rv_vl S a3).bind fun _ =>
  (rv_ix L (x4 + (1 : Int32))).bind fun j4_ =>
  (rv_ix L (x4 + (2 : Int32))).bind fun j7_ =>
  (rv_ck S 10 a1).bind fun u10_ =>
  (fnX12_why n S a1 (xs j4_) (xs j7_)).bind fun x13_ =>
  (rv_ix L (x4 + (1 : Int32))).bind fun j15_ =>
  (rv_ix L (x4 + (2 : Int32))).bind fun j18_ =>
  (rv_ck S 11 a2).bind fun u21_ =>
  rv_bp (fnX13_why n S a2 (xs j15_) (xs j18_)) fun x24_ S25_ =>
  if x13_ = x24_ then (
    rv_lt (x4 + (6)) fun x32_ =>
    K23 a1 a2 a3 x32_ S25_)
  else (
    some ((0 : Int32), S25_))
set_option maxRecDepth 20000 in
set_option maxHeartbeats 4000000 in
theorem eL_law_615 (n : Nat) (L : Nat) (xs : Nat → Int32) (K23 : Nat → Nat → Nat → Int32 → rvS → Option (Int32 × rvS)) (hK23 : ∀ (a1 : Nat) (a2 : Nat) (a3 : Nat) (x4 : Int32) (S : rvS) (r : Int32) (S' : rvS), K23 a1 a2 a3 x4 S = some (r, S') → rv_Ev (mL_law L xs) 200 23 [(0, .ref 25), (1, .ref a1), (2, .ref a2), (3, .ref a3), (4, .int x4)] [] S (some (.int r)) S') (S : rvS) (a1 : Nat) (a2 : Nat) (a3 : Nat) (x4 : Int32) (r : Int32) (S' : rvS) (h : cL_law_615 n L xs K23 S a1 a2 a3 x4 = some (r, S')) : rv_Ev (mL_law L xs) 200 615 [(0, .ref 25), (1, .ref a1), (2, .ref a2), (3, .ref a3), (4, .int x4)] [] S (some (.int r)) S' := by
  unfold cL_law_615 at h
  obtain ⟨_, g1_, h⟩ := rv_b_e h
  obtain ⟨_, g2_, h⟩ := rv_b_e h
  obtain ⟨_, g3_, h⟩ := rv_b_e h
  refine re_aloadn (pc := 615) 1 (by decide +kernel : decode cL_law 615 = .ok (.aload_n 1, 1)) rfl ?_
  refine re_aloadn (pc := 616) 0 (by decide +kernel : decode cL_law 616 = .ok (.aload_n 0, 1)) rfl ?_
  refine re_iload (pc := 617) 4 (by decide +kernel : decode cL_law 617 = .ok (.iload 4, 2)) rfl ?_
  refine re_iconst (pc := 619) (1 : Int32) (by decide +kernel : decode cL_law 619 = .ok (.iconst 1, 1)) (by decide) ?_
  refine re_iadd (pc := 620) (by decide +kernel : decode cL_law 620 = .ok (.iadd, 1)) ?_
  obtain ⟨j4_, g5_, h⟩ := rv_b_e h
  have z6_ := rv_ix_e g5_
  refine re_sld (pc := 621) (L := L) (xs := xs) rfl z6_.1 (by decide +kernel : decode cL_law 621 = .ok (.iaload, 1)) ?_
  refine re_nI (congrArg xs z6_.2.symm) ?_
  refine re_aloadn (pc := 622) 0 (by decide +kernel : decode cL_law 622 = .ok (.aload_n 0, 1)) rfl ?_
  refine re_iload (pc := 623) 4 (by decide +kernel : decode cL_law 623 = .ok (.iload 4, 2)) rfl ?_
  refine re_iconst (pc := 625) (2 : Int32) (by decide +kernel : decode cL_law 625 = .ok (.iconst 2, 1)) (by decide) ?_
  refine re_iadd (pc := 626) (by decide +kernel : decode cL_law 626 = .ok (.iadd, 1)) ?_
  obtain ⟨j7_, g8_, h⟩ := rv_b_e h
  have z9_ := rv_ix_e g8_
  refine re_sld (pc := 627) (L := L) (xs := xs) rfl z9_.1 (by decide +kernel : decode cL_law 627 = .ok (.iaload, 1)) ?_
  refine re_nI (congrArg xs z9_.2.symm) ?_
  obtain ⟨u10_, g11_, h⟩ := rv_b_e h
  obtain ⟨x13_, g14_, h⟩ := rv_b_e h
  have m12_ := metX12_why n S a1 (xs j4_) (xs j7_) _ g14_
  refine re_cV (pc := 628) [.int (xs j4_), .int (xs j7_)] m12_ (rv_okl.k ⟨rfl, rfl⟩) (rv_up.rf _ _) (by decide) (rv_ck_e g11_) ⟨by decide, rfl⟩ (Nat.le_of_ble_eq_true rfl) lVL_69 rfl (by decide +kernel : decode cL_law 628 = .ok (.invokevirtual 69, 3)) ?_
  refine re_aloadn (pc := 631) 2 (by decide +kernel : decode cL_law 631 = .ok (.aload_n 2, 1)) rfl ?_
  refine re_aloadn (pc := 632) 0 (by decide +kernel : decode cL_law 632 = .ok (.aload_n 0, 1)) rfl ?_
  refine re_iload (pc := 633) 4 (by decide +kernel : decode cL_law 633 = .ok (.iload 4, 2)) rfl ?_
  refine re_iconst (pc := 635) (1 : Int32) (by decide +kernel : decode cL_law 635 = .ok (.iconst 1, 1)) (by decide) ?_
  refine re_iadd (pc := 636) (by decide +kernel : decode cL_law 636 = .ok (.iadd, 1)) ?_
  obtain ⟨j15_, g16_, h⟩ := rv_b_e h
  have z17_ := rv_ix_e g16_
  refine re_sld (pc := 637) (L := L) (xs := xs) rfl z17_.1 (by decide +kernel : decode cL_law 637 = .ok (.iaload, 1)) ?_
  refine re_nI (congrArg xs z17_.2.symm) ?_
  refine re_aloadn (pc := 638) 0 (by decide +kernel : decode cL_law 638 = .ok (.aload_n 0, 1)) rfl ?_
  refine re_iload (pc := 639) 4 (by decide +kernel : decode cL_law 639 = .ok (.iload 4, 2)) rfl ?_
  refine re_iconst (pc := 641) (2 : Int32) (by decide +kernel : decode cL_law 641 = .ok (.iconst 2, 1)) (by decide) ?_
  refine re_iadd (pc := 642) (by decide +kernel : decode cL_law 642 = .ok (.iadd, 1)) ?_
  obtain ⟨j18_, g19_, h⟩ := rv_b_e h
  have z20_ := rv_ix_e g19_
  refine re_sld (pc := 643) (L := L) (xs := xs) rfl z20_.1 (by decide +kernel : decode cL_law 643 = .ok (.iaload, 1)) ?_
  refine re_nI (congrArg xs z20_.2.symm) ?_
  obtain ⟨u21_, g22_, h⟩ := rv_b_e h
  obtain ⟨x24_, S25_, g26_, h⟩ := rv_bp_e h
  have m23_ := metX13_why n S a2 (xs j15_) (xs j18_) _ _ g26_
  have z27_ : rv_same S S25_ := m23_.sh rfl
  have o28_ : a1 < 64 + S25_.1.length := by rw [z27_.1]; exact (rv_vl_e g1_)
  have o29_ : a2 < 64 + S25_.1.length := by rw [z27_.1]; exact (rv_vl_e g2_)
  have o30_ : a3 < 64 + S25_.1.length := by rw [z27_.1]; exact (rv_vl_e g3_)
  refine re_cV (pc := 644) [.int (xs j15_), .int (xs j18_)] m23_ (rv_okl.k z27_) (rv_up.sh z27_) (by decide) (rv_ck_e g22_) ⟨by decide, rfl⟩ (Nat.le_of_ble_eq_true rfl) lVL_72 rfl (by decide +kernel : decode cL_law 644 = .ok (.invokevirtual 72, 3)) ?_
  rcases rv_if_e h with ⟨g31_, h⟩ | ⟨g31_, h⟩
  · refine re_icmp_eq_t (pc := 647) 1836 (by decide +kernel : decode cL_law 647 = .ok (.if_icmp .eq 1189, 3)) (by decide) g31_ ?_
    obtain ⟨x32_, g33_, h⟩ := rv_lt_e h
    refine re_iinc (pc := 1836) 4 x32_ (lv1 := [(4, .int x32_), (0, .ref 25), (1, .ref a1), (2, .ref a2), (3, .ref a3)]) (by decide +kernel : decode cL_law 1836 = .ok (.iinc 4 6, 3)) rfl g33_ (Nat.le_of_ble_eq_true rfl) rfl ?_
    refine re_goto (pc := 1839) 23 (by decide +kernel : decode cL_law 1839 = .ok (.goto (-1816), 3)) (by decide) ?_
    refine re_sub [1, 2, 3, 4, 0] (lv1 := [(0, .ref 25), (1, .ref a1), (2, .ref a2), (3, .ref a3), (4, .int x32_)]) rfl ?_
    exact hK23 a1 a2 a3 x32_ S25_ _ _ h
  · refine re_icmp_eq_f (pc := 647) 1836 (by decide +kernel : decode cL_law 647 = .ok (.if_icmp .eq 1189, 3)) (by decide) g31_ ?_
    refine re_iconst (pc := 650) (0 : Int32) (by decide +kernel : decode cL_law 650 = .ok (.iconst 0, 1)) (by decide) ?_
    cases h
    exact re_iret (fun ty hty => by cases hty; rfl) (by decide +kernel : decode cL_law 651 = .ok (.ireturn, 1))
noncomputable def cL_law_652 (n : Nat) (L : Nat) (xs : Nat → Int32) (K23 : Nat → Nat → Nat → Int32 → rvS → Option (Int32 × rvS)) (S : rvS) (a1 : Nat) (a2 : Nat) (a3 : Nat) (x4 : Int32) : Option (Int32 × rvS) :=
  (rv_vl S a1).bind fun _ =>
  (rv_vl S a2).bind fun _ =>
  (rv_vl S a3).bind fun _ =>
  (rv_ix L (x4 + (1 : Int32))).bind fun j4_ =>
  (rv_ix L (x4 + (2 : Int32))).bind fun j7_ =>
  (rv_ck S 10 a1).bind fun u10_ =>
  rv_bp (fnX12_pay n S a1 (xs j4_) (xs j7_)) fun x13_ S14_ =>
  (rv_ix L (x4 + (1 : Int32))).bind fun j20_ =>
  (rv_ix L (x4 + (2 : Int32))).bind fun j23_ =>
  (rv_ck S14_ 11 a2).bind fun u26_ =>
  rv_bp (fnX13_pay n S14_ a2 (xs j20_) (xs j23_)) fun x29_ S30_ =>
  if x13_ = x29_ then (
    rv_lt (x4 + (6)) fun x37_ =>
    K23 a1 a2 a3 x37_ S30_)
  else (
    some ((0 : Int32), S30_))
set_option maxRecDepth 20000 in
set_option maxHeartbeats 4000000 in
theorem eL_law_652 (n : Nat) (L : Nat) (xs : Nat → Int32) (K23 : Nat → Nat → Nat → Int32 → rvS → Option (Int32 × rvS)) (hK23 : ∀ (a1 : Nat) (a2 : Nat) (a3 : Nat) (x4 : Int32) (S : rvS) (r : Int32) (S' : rvS), K23 a1 a2 a3 x4 S = some (r, S') → rv_Ev (mL_law L xs) 200 23 [(0, .ref 25), (1, .ref a1), (2, .ref a2), (3, .ref a3), (4, .int x4)] [] S (some (.int r)) S') (S : rvS) (a1 : Nat) (a2 : Nat) (a3 : Nat) (x4 : Int32) (r : Int32) (S' : rvS) (h : cL_law_652 n L xs K23 S a1 a2 a3 x4 = some (r, S')) : rv_Ev (mL_law L xs) 200 652 [(0, .ref 25), (1, .ref a1), (2, .ref a2), (3, .ref a3), (4, .int x4)] [] S (some (.int r)) S' := by
  unfold cL_law_652 at h
  obtain ⟨_, g1_, h⟩ := rv_b_e h
  obtain ⟨_, g2_, h⟩ := rv_b_e h
  obtain ⟨_, g3_, h⟩ := rv_b_e h
  refine re_aloadn (pc := 652) 1 (by decide +kernel : decode cL_law 652 = .ok (.aload_n 1, 1)) rfl ?_
  refine re_aloadn (pc := 653) 0 (by decide +kernel : decode cL_law 653 = .ok (.aload_n 0, 1)) rfl ?_
  refine re_iload (pc := 654) 4 (by decide +kernel : decode cL_law 654 = .ok (.iload 4, 2)) rfl ?_
  refine re_iconst (pc := 656) (1 : Int32) (by decide +kernel : decode cL_law 656 = .ok (.iconst 1, 1)) (by decide) ?_
  refine re_iadd (pc := 657) (by decide +kernel : decode cL_law 657 = .ok (.iadd, 1)) ?_
  obtain ⟨j4_, g5_, h⟩ := rv_b_e h
  have z6_ := rv_ix_e g5_
  refine re_sld (pc := 658) (L := L) (xs := xs) rfl z6_.1 (by decide +kernel : decode cL_law 658 = .ok (.iaload, 1)) ?_
  refine re_nI (congrArg xs z6_.2.symm) ?_
  refine re_aloadn (pc := 659) 0 (by decide +kernel : decode cL_law 659 = .ok (.aload_n 0, 1)) rfl ?_
  refine re_iload (pc := 660) 4 (by decide +kernel : decode cL_law 660 = .ok (.iload 4, 2)) rfl ?_
  refine re_iconst (pc := 662) (2 : Int32) (by decide +kernel : decode cL_law 662 = .ok (.iconst 2, 1)) (by decide) ?_
  refine re_iadd (pc := 663) (by decide +kernel : decode cL_law 663 = .ok (.iadd, 1)) ?_
  obtain ⟨j7_, g8_, h⟩ := rv_b_e h
  have z9_ := rv_ix_e g8_
  refine re_sld (pc := 664) (L := L) (xs := xs) rfl z9_.1 (by decide +kernel : decode cL_law 664 = .ok (.iaload, 1)) ?_
  refine re_nI (congrArg xs z9_.2.symm) ?_
  obtain ⟨u10_, g11_, h⟩ := rv_b_e h
  obtain ⟨x13_, S14_, g15_, h⟩ := rv_bp_e h
  have m12_ := metX12_pay n S a1 (xs j4_) (xs j7_) _ _ g15_
  have z16_ : rv_same S S14_ := m12_.sh rfl
  have o17_ : a1 < 64 + S14_.1.length := by rw [z16_.1]; exact (rv_vl_e g1_)
  have o18_ : a2 < 64 + S14_.1.length := by rw [z16_.1]; exact (rv_vl_e g2_)
  have o19_ : a3 < 64 + S14_.1.length := by rw [z16_.1]; exact (rv_vl_e g3_)
  refine re_cV (pc := 665) [.int (xs j4_), .int (xs j7_)] m12_ (rv_okl.k z16_) (rv_up.sh z16_) (by decide) (rv_ck_e g11_) ⟨by decide, rfl⟩ (Nat.le_of_ble_eq_true rfl) lVL_73 rfl (by decide +kernel : decode cL_law 665 = .ok (.invokevirtual 73, 3)) ?_
  refine re_aloadn (pc := 668) 2 (by decide +kernel : decode cL_law 668 = .ok (.aload_n 2, 1)) rfl ?_
  refine re_aloadn (pc := 669) 0 (by decide +kernel : decode cL_law 669 = .ok (.aload_n 0, 1)) rfl ?_
  refine re_iload (pc := 670) 4 (by decide +kernel : decode cL_law 670 = .ok (.iload 4, 2)) rfl ?_
  refine re_iconst (pc := 672) (1 : Int32) (by decide +kernel : decode cL_law 672 = .ok (.iconst 1, 1)) (by decide) ?_
  refine re_iadd (pc := 673) (by decide +kernel : decode cL_law 673 = .ok (.iadd, 1)) ?_
  obtain ⟨j20_, g21_, h⟩ := rv_b_e h
  have z22_ := rv_ix_e g21_
  refine re_sld (pc := 674) (L := L) (xs := xs) rfl z22_.1 (by decide +kernel : decode cL_law 674 = .ok (.iaload, 1)) ?_
  refine re_nI (congrArg xs z22_.2.symm) ?_
  refine re_aloadn (pc := 675) 0 (by decide +kernel : decode cL_law 675 = .ok (.aload_n 0, 1)) rfl ?_
  refine re_iload (pc := 676) 4 (by decide +kernel : decode cL_law 676 = .ok (.iload 4, 2)) rfl ?_
  refine re_iconst (pc := 678) (2 : Int32) (by decide +kernel : decode cL_law 678 = .ok (.iconst 2, 1)) (by decide) ?_
  refine re_iadd (pc := 679) (by decide +kernel : decode cL_law 679 = .ok (.iadd, 1)) ?_
  obtain ⟨j23_, g24_, h⟩ := rv_b_e h
  have z25_ := rv_ix_e g24_
  refine re_sld (pc := 680) (L := L) (xs := xs) rfl z25_.1 (by decide +kernel : decode cL_law 680 = .ok (.iaload, 1)) ?_
  refine re_nI (congrArg xs z25_.2.symm) ?_
  obtain ⟨u26_, g27_, h⟩ := rv_b_e h
  obtain ⟨x29_, S30_, g31_, h⟩ := rv_bp_e h
  have m28_ := metX13_pay n S14_ a2 (xs j20_) (xs j23_) _ _ g31_
  have z32_ : rv_same S14_ S30_ := m28_.sh rfl
  have o33_ : a1 < 64 + S30_.1.length := by rw [z32_.1]; exact o17_
  have o34_ : a2 < 64 + S30_.1.length := by rw [z32_.1]; exact o18_
  have o35_ : a3 < 64 + S30_.1.length := by rw [z32_.1]; exact o19_
  refine re_cV (pc := 681) [.int (xs j20_), .int (xs j23_)] m28_ (rv_okl.k z32_) (rv_up.sh z32_) (by decide) (rv_ck_e g27_) ⟨by decide, rfl⟩ (Nat.le_of_ble_eq_true rfl) lVL_76 rfl (by decide +kernel : decode cL_law 681 = .ok (.invokevirtual 76, 3)) ?_
  rcases rv_if_e h with ⟨g36_, h⟩ | ⟨g36_, h⟩
  · refine re_icmp_eq_t (pc := 684) 1836 (by decide +kernel : decode cL_law 684 = .ok (.if_icmp .eq 1152, 3)) (by decide) g36_ ?_
    obtain ⟨x37_, g38_, h⟩ := rv_lt_e h
    refine re_iinc (pc := 1836) 4 x37_ (lv1 := [(4, .int x37_), (0, .ref 25), (1, .ref a1), (2, .ref a2), (3, .ref a3)]) (by decide +kernel : decode cL_law 1836 = .ok (.iinc 4 6, 3)) rfl g38_ (Nat.le_of_ble_eq_true rfl) rfl ?_
    refine re_goto (pc := 1839) 23 (by decide +kernel : decode cL_law 1839 = .ok (.goto (-1816), 3)) (by decide) ?_
    refine re_sub [1, 2, 3, 4, 0] (lv1 := [(0, .ref 25), (1, .ref a1), (2, .ref a2), (3, .ref a3), (4, .int x37_)]) rfl ?_
    exact hK23 a1 a2 a3 x37_ S30_ _ _ h
  · refine re_icmp_eq_f (pc := 684) 1836 (by decide +kernel : decode cL_law 684 = .ok (.if_icmp .eq 1152, 3)) (by decide) g36_ ?_
    refine re_iconst (pc := 687) (0 : Int32) (by decide +kernel : decode cL_law 687 = .ok (.iconst 0, 1)) (by decide) ?_
    cases h
    exact re_iret (fun ty hty => by cases hty; rfl) (by decide +kernel : decode cL_law 688 = .ok (.ireturn, 1))
noncomputable def cL_law_689 (n : Nat) (L : Nat) (xs : Nat → Int32) (K23 : Nat → Nat → Nat → Int32 → rvS → Option (Int32 × rvS)) (S : rvS) (a1 : Nat) (a2 : Nat) (a3 : Nat) (x4 : Int32) : Option (Int32 × rvS) :=
  (rv_vl S a1).bind fun _ =>
  (rv_vl S a2).bind fun _ =>
  (rv_vl S a3).bind fun _ =>
  (rv_ix L (x4 + (1 : Int32))).bind fun j4_ =>
  (rv_ck S 10 a1).bind fun u7_ =>
  (fnX12_whom n S a1 (xs j4_)).bind fun x10_ =>
  (rv_ix L (x4 + (1 : Int32))).bind fun j12_ =>
  (rv_ck S 11 a2).bind fun u15_ =>
  rv_bp (fnX13_whom n S a2 (xs j12_)) fun x18_ S19_ =>
  if x10_ = x18_ then (
    rv_lt (x4 + (6)) fun x26_ =>
    K23 a1 a2 a3 x26_ S19_)
  else (
    some ((0 : Int32), S19_))
set_option maxRecDepth 20000 in
set_option maxHeartbeats 4000000 in
theorem eL_law_689 (n : Nat) (L : Nat) (xs : Nat → Int32) (K23 : Nat → Nat → Nat → Int32 → rvS → Option (Int32 × rvS)) (hK23 : ∀ (a1 : Nat) (a2 : Nat) (a3 : Nat) (x4 : Int32) (S : rvS) (r : Int32) (S' : rvS), K23 a1 a2 a3 x4 S = some (r, S') → rv_Ev (mL_law L xs) 200 23 [(0, .ref 25), (1, .ref a1), (2, .ref a2), (3, .ref a3), (4, .int x4)] [] S (some (.int r)) S') (S : rvS) (a1 : Nat) (a2 : Nat) (a3 : Nat) (x4 : Int32) (r : Int32) (S' : rvS) (h : cL_law_689 n L xs K23 S a1 a2 a3 x4 = some (r, S')) : rv_Ev (mL_law L xs) 200 689 [(0, .ref 25), (1, .ref a1), (2, .ref a2), (3, .ref a3), (4, .int x4)] [] S (some (.int r)) S' := by
  unfold cL_law_689 at h
  obtain ⟨_, g1_, h⟩ := rv_b_e h
  obtain ⟨_, g2_, h⟩ := rv_b_e h
  obtain ⟨_, g3_, h⟩ := rv_b_e h
  refine re_aloadn (pc := 689) 1 (by decide +kernel : decode cL_law 689 = .ok (.aload_n 1, 1)) rfl ?_
  refine re_aloadn (pc := 690) 0 (by decide +kernel : decode cL_law 690 = .ok (.aload_n 0, 1)) rfl ?_
  refine re_iload (pc := 691) 4 (by decide +kernel : decode cL_law 691 = .ok (.iload 4, 2)) rfl ?_
  refine re_iconst (pc := 693) (1 : Int32) (by decide +kernel : decode cL_law 693 = .ok (.iconst 1, 1)) (by decide) ?_
  refine re_iadd (pc := 694) (by decide +kernel : decode cL_law 694 = .ok (.iadd, 1)) ?_
  obtain ⟨j4_, g5_, h⟩ := rv_b_e h
  have z6_ := rv_ix_e g5_
  refine re_sld (pc := 695) (L := L) (xs := xs) rfl z6_.1 (by decide +kernel : decode cL_law 695 = .ok (.iaload, 1)) ?_
  refine re_nI (congrArg xs z6_.2.symm) ?_
  obtain ⟨u7_, g8_, h⟩ := rv_b_e h
  obtain ⟨x10_, g11_, h⟩ := rv_b_e h
  have m9_ := metX12_whom n S a1 (xs j4_) _ g11_
  refine re_cV (pc := 696) [.int (xs j4_)] m9_ (rv_okl.k ⟨rfl, rfl⟩) (rv_up.rf _ _) (by decide) (rv_ck_e g8_) ⟨by decide, rfl⟩ (Nat.le_of_ble_eq_true rfl) lVL_77 rfl (by decide +kernel : decode cL_law 696 = .ok (.invokevirtual 77, 3)) ?_
  refine re_aloadn (pc := 699) 2 (by decide +kernel : decode cL_law 699 = .ok (.aload_n 2, 1)) rfl ?_
  refine re_aloadn (pc := 700) 0 (by decide +kernel : decode cL_law 700 = .ok (.aload_n 0, 1)) rfl ?_
  refine re_iload (pc := 701) 4 (by decide +kernel : decode cL_law 701 = .ok (.iload 4, 2)) rfl ?_
  refine re_iconst (pc := 703) (1 : Int32) (by decide +kernel : decode cL_law 703 = .ok (.iconst 1, 1)) (by decide) ?_
  refine re_iadd (pc := 704) (by decide +kernel : decode cL_law 704 = .ok (.iadd, 1)) ?_
  obtain ⟨j12_, g13_, h⟩ := rv_b_e h
  have z14_ := rv_ix_e g13_
  refine re_sld (pc := 705) (L := L) (xs := xs) rfl z14_.1 (by decide +kernel : decode cL_law 705 = .ok (.iaload, 1)) ?_
  refine re_nI (congrArg xs z14_.2.symm) ?_
  obtain ⟨u15_, g16_, h⟩ := rv_b_e h
  obtain ⟨x18_, S19_, g20_, h⟩ := rv_bp_e h
  have m17_ := metX13_whom n S a2 (xs j12_) _ _ g20_
  have z21_ : rv_same S S19_ := m17_.sh rfl
  have o22_ : a1 < 64 + S19_.1.length := by rw [z21_.1]; exact (rv_vl_e g1_)
  have o23_ : a2 < 64 + S19_.1.length := by rw [z21_.1]; exact (rv_vl_e g2_)
  have o24_ : a3 < 64 + S19_.1.length := by rw [z21_.1]; exact (rv_vl_e g3_)
  refine re_cV (pc := 706) [.int (xs j12_)] m17_ (rv_okl.k z21_) (rv_up.sh z21_) (by decide) (rv_ck_e g16_) ⟨by decide, rfl⟩ (Nat.le_of_ble_eq_true rfl) lVL_81 rfl (by decide +kernel : decode cL_law 706 = .ok (.invokevirtual 81, 3)) ?_
  rcases rv_if_e h with ⟨g25_, h⟩ | ⟨g25_, h⟩
  · refine re_icmp_eq_t (pc := 709) 1836 (by decide +kernel : decode cL_law 709 = .ok (.if_icmp .eq 1127, 3)) (by decide) g25_ ?_
    obtain ⟨x26_, g27_, h⟩ := rv_lt_e h
    refine re_iinc (pc := 1836) 4 x26_ (lv1 := [(4, .int x26_), (0, .ref 25), (1, .ref a1), (2, .ref a2), (3, .ref a3)]) (by decide +kernel : decode cL_law 1836 = .ok (.iinc 4 6, 3)) rfl g27_ (Nat.le_of_ble_eq_true rfl) rfl ?_
    refine re_goto (pc := 1839) 23 (by decide +kernel : decode cL_law 1839 = .ok (.goto (-1816), 3)) (by decide) ?_
    refine re_sub [1, 2, 3, 4, 0] (lv1 := [(0, .ref 25), (1, .ref a1), (2, .ref a2), (3, .ref a3), (4, .int x26_)]) rfl ?_
    exact hK23 a1 a2 a3 x26_ S19_ _ _ h
  · refine re_icmp_eq_f (pc := 709) 1836 (by decide +kernel : decode cL_law 709 = .ok (.if_icmp .eq 1127, 3)) (by decide) g25_ ?_
    refine re_iconst (pc := 712) (0 : Int32) (by decide +kernel : decode cL_law 712 = .ok (.iconst 0, 1)) (by decide) ?_
    cases h
    exact re_iret (fun ty hty => by cases hty; rfl) (by decide +kernel : decode cL_law 713 = .ok (.ireturn, 1))
noncomputable def cL_law_714 (n : Nat) (L : Nat) (xs : Nat → Int32) (K23 : Nat → Nat → Nat → Int32 → rvS → Option (Int32 × rvS)) (S : rvS) (a1 : Nat) (a2 : Nat) (a3 : Nat) (x4 : Int32) : Option (Int32 × rvS) :=
  (rv_vl S a1).bind fun _ =>
  (rv_vl S a2).bind fun _ =>
  (rv_vl S a3).bind fun _ =>
  (rv_ix L (x4 + (1 : Int32))).bind fun j4_ =>
  (rv_ix L (x4 + (2 : Int32))).bind fun j7_ =>
  (rv_ix L (x4 + (3 : Int32))).bind fun j10_ =>
  (rv_ck S 10 a1).bind fun u13_ =>
  rv_bp (fnX12_exact n S a1 (xs j4_) (xs j7_) (xs j10_)) fun x16_ S17_ =>
  (rv_ix L (x4 + (1 : Int32))).bind fun j23_ =>
  (rv_ix L (x4 + (2 : Int32))).bind fun j26_ =>
  (rv_ix L (x4 + (3 : Int32))).bind fun j29_ =>
  (rv_ck S17_ 11 a2).bind fun u32_ =>
  rv_bp (fnX13_exact n S17_ a2 (xs j23_) (xs j26_) (xs j29_)) fun x35_ S36_ =>
  if x16_ = x35_ then (
    rv_lt (x4 + (6)) fun x43_ =>
    K23 a1 a2 a3 x43_ S36_)
  else (
    some ((0 : Int32), S36_))
set_option maxRecDepth 20000 in
set_option maxHeartbeats 4000000 in
theorem eL_law_714 (n : Nat) (L : Nat) (xs : Nat → Int32) (K23 : Nat → Nat → Nat → Int32 → rvS → Option (Int32 × rvS)) (hK23 : ∀ (a1 : Nat) (a2 : Nat) (a3 : Nat) (x4 : Int32) (S : rvS) (r : Int32) (S' : rvS), K23 a1 a2 a3 x4 S = some (r, S') → rv_Ev (mL_law L xs) 200 23 [(0, .ref 25), (1, .ref a1), (2, .ref a2), (3, .ref a3), (4, .int x4)] [] S (some (.int r)) S') (S : rvS) (a1 : Nat) (a2 : Nat) (a3 : Nat) (x4 : Int32) (r : Int32) (S' : rvS) (h : cL_law_714 n L xs K23 S a1 a2 a3 x4 = some (r, S')) : rv_Ev (mL_law L xs) 200 714 [(0, .ref 25), (1, .ref a1), (2, .ref a2), (3, .ref a3), (4, .int x4)] [] S (some (.int r)) S' := by
  unfold cL_law_714 at h
  obtain ⟨_, g1_, h⟩ := rv_b_e h
  obtain ⟨_, g2_, h⟩ := rv_b_e h
  obtain ⟨_, g3_, h⟩ := rv_b_e h
  refine re_aloadn (pc := 714) 1 (by decide +kernel : decode cL_law 714 = .ok (.aload_n 1, 1)) rfl ?_
  refine re_aloadn (pc := 715) 0 (by decide +kernel : decode cL_law 715 = .ok (.aload_n 0, 1)) rfl ?_
  refine re_iload (pc := 716) 4 (by decide +kernel : decode cL_law 716 = .ok (.iload 4, 2)) rfl ?_
  refine re_iconst (pc := 718) (1 : Int32) (by decide +kernel : decode cL_law 718 = .ok (.iconst 1, 1)) (by decide) ?_
  refine re_iadd (pc := 719) (by decide +kernel : decode cL_law 719 = .ok (.iadd, 1)) ?_
  obtain ⟨j4_, g5_, h⟩ := rv_b_e h
  have z6_ := rv_ix_e g5_
  refine re_sld (pc := 720) (L := L) (xs := xs) rfl z6_.1 (by decide +kernel : decode cL_law 720 = .ok (.iaload, 1)) ?_
  refine re_nI (congrArg xs z6_.2.symm) ?_
  refine re_aloadn (pc := 721) 0 (by decide +kernel : decode cL_law 721 = .ok (.aload_n 0, 1)) rfl ?_
  refine re_iload (pc := 722) 4 (by decide +kernel : decode cL_law 722 = .ok (.iload 4, 2)) rfl ?_
  refine re_iconst (pc := 724) (2 : Int32) (by decide +kernel : decode cL_law 724 = .ok (.iconst 2, 1)) (by decide) ?_
  refine re_iadd (pc := 725) (by decide +kernel : decode cL_law 725 = .ok (.iadd, 1)) ?_
  obtain ⟨j7_, g8_, h⟩ := rv_b_e h
  have z9_ := rv_ix_e g8_
  refine re_sld (pc := 726) (L := L) (xs := xs) rfl z9_.1 (by decide +kernel : decode cL_law 726 = .ok (.iaload, 1)) ?_
  refine re_nI (congrArg xs z9_.2.symm) ?_
  refine re_aloadn (pc := 727) 0 (by decide +kernel : decode cL_law 727 = .ok (.aload_n 0, 1)) rfl ?_
  refine re_iload (pc := 728) 4 (by decide +kernel : decode cL_law 728 = .ok (.iload 4, 2)) rfl ?_
  refine re_iconst (pc := 730) (3 : Int32) (by decide +kernel : decode cL_law 730 = .ok (.iconst 3, 1)) (by decide) ?_
  refine re_iadd (pc := 731) (by decide +kernel : decode cL_law 731 = .ok (.iadd, 1)) ?_
  obtain ⟨j10_, g11_, h⟩ := rv_b_e h
  have z12_ := rv_ix_e g11_
  refine re_sld (pc := 732) (L := L) (xs := xs) rfl z12_.1 (by decide +kernel : decode cL_law 732 = .ok (.iaload, 1)) ?_
  refine re_nI (congrArg xs z12_.2.symm) ?_
  obtain ⟨u13_, g14_, h⟩ := rv_b_e h
  obtain ⟨x16_, S17_, g18_, h⟩ := rv_bp_e h
  have m15_ := metX12_exact n S a1 (xs j4_) (xs j7_) (xs j10_) _ _ g18_
  have z19_ : rv_same S S17_ := m15_.sh rfl
  have o20_ : a1 < 64 + S17_.1.length := by rw [z19_.1]; exact (rv_vl_e g1_)
  have o21_ : a2 < 64 + S17_.1.length := by rw [z19_.1]; exact (rv_vl_e g2_)
  have o22_ : a3 < 64 + S17_.1.length := by rw [z19_.1]; exact (rv_vl_e g3_)
  refine re_cV (pc := 733) [.int (xs j4_), .int (xs j7_), .int (xs j10_)] m15_ (rv_okl.k z19_) (rv_up.sh z19_) (by decide) (rv_ck_e g14_) ⟨by decide, rfl⟩ (Nat.le_of_ble_eq_true rfl) lVL_82 rfl (by decide +kernel : decode cL_law 733 = .ok (.invokevirtual 82, 3)) ?_
  refine re_aloadn (pc := 736) 2 (by decide +kernel : decode cL_law 736 = .ok (.aload_n 2, 1)) rfl ?_
  refine re_aloadn (pc := 737) 0 (by decide +kernel : decode cL_law 737 = .ok (.aload_n 0, 1)) rfl ?_
  refine re_iload (pc := 738) 4 (by decide +kernel : decode cL_law 738 = .ok (.iload 4, 2)) rfl ?_
  refine re_iconst (pc := 740) (1 : Int32) (by decide +kernel : decode cL_law 740 = .ok (.iconst 1, 1)) (by decide) ?_
  refine re_iadd (pc := 741) (by decide +kernel : decode cL_law 741 = .ok (.iadd, 1)) ?_
  obtain ⟨j23_, g24_, h⟩ := rv_b_e h
  have z25_ := rv_ix_e g24_
  refine re_sld (pc := 742) (L := L) (xs := xs) rfl z25_.1 (by decide +kernel : decode cL_law 742 = .ok (.iaload, 1)) ?_
  refine re_nI (congrArg xs z25_.2.symm) ?_
  refine re_aloadn (pc := 743) 0 (by decide +kernel : decode cL_law 743 = .ok (.aload_n 0, 1)) rfl ?_
  refine re_iload (pc := 744) 4 (by decide +kernel : decode cL_law 744 = .ok (.iload 4, 2)) rfl ?_
  refine re_iconst (pc := 746) (2 : Int32) (by decide +kernel : decode cL_law 746 = .ok (.iconst 2, 1)) (by decide) ?_
  refine re_iadd (pc := 747) (by decide +kernel : decode cL_law 747 = .ok (.iadd, 1)) ?_
  obtain ⟨j26_, g27_, h⟩ := rv_b_e h
  have z28_ := rv_ix_e g27_
  refine re_sld (pc := 748) (L := L) (xs := xs) rfl z28_.1 (by decide +kernel : decode cL_law 748 = .ok (.iaload, 1)) ?_
  refine re_nI (congrArg xs z28_.2.symm) ?_
  refine re_aloadn (pc := 749) 0 (by decide +kernel : decode cL_law 749 = .ok (.aload_n 0, 1)) rfl ?_
  refine re_iload (pc := 750) 4 (by decide +kernel : decode cL_law 750 = .ok (.iload 4, 2)) rfl ?_
  refine re_iconst (pc := 752) (3 : Int32) (by decide +kernel : decode cL_law 752 = .ok (.iconst 3, 1)) (by decide) ?_
  refine re_iadd (pc := 753) (by decide +kernel : decode cL_law 753 = .ok (.iadd, 1)) ?_
  obtain ⟨j29_, g30_, h⟩ := rv_b_e h
  have z31_ := rv_ix_e g30_
  refine re_sld (pc := 754) (L := L) (xs := xs) rfl z31_.1 (by decide +kernel : decode cL_law 754 = .ok (.iaload, 1)) ?_
  refine re_nI (congrArg xs z31_.2.symm) ?_
  obtain ⟨u32_, g33_, h⟩ := rv_b_e h
  obtain ⟨x35_, S36_, g37_, h⟩ := rv_bp_e h
  have m34_ := metX13_exact n S17_ a2 (xs j23_) (xs j26_) (xs j29_) _ _ g37_
  have z38_ : rv_same S17_ S36_ := m34_.sh rfl
  have o39_ : a1 < 64 + S36_.1.length := by rw [z38_.1]; exact o20_
  have o40_ : a2 < 64 + S36_.1.length := by rw [z38_.1]; exact o21_
  have o41_ : a3 < 64 + S36_.1.length := by rw [z38_.1]; exact o22_
  refine re_cV (pc := 755) [.int (xs j23_), .int (xs j26_), .int (xs j29_)] m34_ (rv_okl.k z38_) (rv_up.sh z38_) (by decide) (rv_ck_e g33_) ⟨by decide, rfl⟩ (Nat.le_of_ble_eq_true rfl) lVL_86 rfl (by decide +kernel : decode cL_law 755 = .ok (.invokevirtual 86, 3)) ?_
  rcases rv_if_e h with ⟨g42_, h⟩ | ⟨g42_, h⟩
  · refine re_icmp_eq_t (pc := 758) 1836 (by decide +kernel : decode cL_law 758 = .ok (.if_icmp .eq 1078, 3)) (by decide) g42_ ?_
    obtain ⟨x43_, g44_, h⟩ := rv_lt_e h
    refine re_iinc (pc := 1836) 4 x43_ (lv1 := [(4, .int x43_), (0, .ref 25), (1, .ref a1), (2, .ref a2), (3, .ref a3)]) (by decide +kernel : decode cL_law 1836 = .ok (.iinc 4 6, 3)) rfl g44_ (Nat.le_of_ble_eq_true rfl) rfl ?_
    refine re_goto (pc := 1839) 23 (by decide +kernel : decode cL_law 1839 = .ok (.goto (-1816), 3)) (by decide) ?_
    refine re_sub [1, 2, 3, 4, 0] (lv1 := [(0, .ref 25), (1, .ref a1), (2, .ref a2), (3, .ref a3), (4, .int x43_)]) rfl ?_
    exact hK23 a1 a2 a3 x43_ S36_ _ _ h
  · refine re_icmp_eq_f (pc := 758) 1836 (by decide +kernel : decode cL_law 758 = .ok (.if_icmp .eq 1078, 3)) (by decide) g42_ ?_
    refine re_iconst (pc := 761) (0 : Int32) (by decide +kernel : decode cL_law 761 = .ok (.iconst 0, 1)) (by decide) ?_
    cases h
    exact re_iret (fun ty hty => by cases hty; rfl) (by decide +kernel : decode cL_law 762 = .ok (.ireturn, 1))
noncomputable def cL_law_763 (n : Nat) (L : Nat) (xs : Nat → Int32) (K23 : Nat → Nat → Nat → Int32 → rvS → Option (Int32 × rvS)) (S : rvS) (a1 : Nat) (a2 : Nat) (a3 : Nat) (x4 : Int32) : Option (Int32 × rvS) :=
  (rv_vl S a1).bind fun _ =>
  (rv_vl S a2).bind fun _ =>
  (rv_vl S a3).bind fun _ =>
  (rv_ix L (x4 + (1 : Int32))).bind fun j4_ =>
  (rv_ck S 10 a1).bind fun u7_ =>
  (fnX12_given n S a1 (xs j4_)).bind fun x10_ =>
  (rv_ix L (x4 + (1 : Int32))).bind fun j12_ =>
  (rv_ck S 11 a2).bind fun u15_ =>
  rv_bp (fnX13_given n S a2 (xs j12_)) fun x18_ S19_ =>
  if x10_ = x18_ then (
    rv_lt (x4 + (6)) fun x26_ =>
    K23 a1 a2 a3 x26_ S19_)
  else (
    some ((0 : Int32), S19_))
set_option maxRecDepth 20000 in
set_option maxHeartbeats 4000000 in
theorem eL_law_763 (n : Nat) (L : Nat) (xs : Nat → Int32) (K23 : Nat → Nat → Nat → Int32 → rvS → Option (Int32 × rvS)) (hK23 : ∀ (a1 : Nat) (a2 : Nat) (a3 : Nat) (x4 : Int32) (S : rvS) (r : Int32) (S' : rvS), K23 a1 a2 a3 x4 S = some (r, S') → rv_Ev (mL_law L xs) 200 23 [(0, .ref 25), (1, .ref a1), (2, .ref a2), (3, .ref a3), (4, .int x4)] [] S (some (.int r)) S') (S : rvS) (a1 : Nat) (a2 : Nat) (a3 : Nat) (x4 : Int32) (r : Int32) (S' : rvS) (h : cL_law_763 n L xs K23 S a1 a2 a3 x4 = some (r, S')) : rv_Ev (mL_law L xs) 200 763 [(0, .ref 25), (1, .ref a1), (2, .ref a2), (3, .ref a3), (4, .int x4)] [] S (some (.int r)) S' := by
  unfold cL_law_763 at h
  obtain ⟨_, g1_, h⟩ := rv_b_e h
  obtain ⟨_, g2_, h⟩ := rv_b_e h
  obtain ⟨_, g3_, h⟩ := rv_b_e h
  refine re_aloadn (pc := 763) 1 (by decide +kernel : decode cL_law 763 = .ok (.aload_n 1, 1)) rfl ?_
  refine re_aloadn (pc := 764) 0 (by decide +kernel : decode cL_law 764 = .ok (.aload_n 0, 1)) rfl ?_
  refine re_iload (pc := 765) 4 (by decide +kernel : decode cL_law 765 = .ok (.iload 4, 2)) rfl ?_
  refine re_iconst (pc := 767) (1 : Int32) (by decide +kernel : decode cL_law 767 = .ok (.iconst 1, 1)) (by decide) ?_
  refine re_iadd (pc := 768) (by decide +kernel : decode cL_law 768 = .ok (.iadd, 1)) ?_
  obtain ⟨j4_, g5_, h⟩ := rv_b_e h
  have z6_ := rv_ix_e g5_
  refine re_sld (pc := 769) (L := L) (xs := xs) rfl z6_.1 (by decide +kernel : decode cL_law 769 = .ok (.iaload, 1)) ?_
  refine re_nI (congrArg xs z6_.2.symm) ?_
  obtain ⟨u7_, g8_, h⟩ := rv_b_e h
  obtain ⟨x10_, g11_, h⟩ := rv_b_e h
  have m9_ := metX12_given n S a1 (xs j4_) _ g11_
  refine re_cV (pc := 770) [.int (xs j4_)] m9_ (rv_okl.k ⟨rfl, rfl⟩) (rv_up.rf _ _) (by decide) (rv_ck_e g8_) ⟨by decide, rfl⟩ (Nat.le_of_ble_eq_true rfl) lVL_87 rfl (by decide +kernel : decode cL_law 770 = .ok (.invokevirtual 87, 3)) ?_
  refine re_aloadn (pc := 773) 2 (by decide +kernel : decode cL_law 773 = .ok (.aload_n 2, 1)) rfl ?_
  refine re_aloadn (pc := 774) 0 (by decide +kernel : decode cL_law 774 = .ok (.aload_n 0, 1)) rfl ?_
  refine re_iload (pc := 775) 4 (by decide +kernel : decode cL_law 775 = .ok (.iload 4, 2)) rfl ?_
  refine re_iconst (pc := 777) (1 : Int32) (by decide +kernel : decode cL_law 777 = .ok (.iconst 1, 1)) (by decide) ?_
  refine re_iadd (pc := 778) (by decide +kernel : decode cL_law 778 = .ok (.iadd, 1)) ?_
  obtain ⟨j12_, g13_, h⟩ := rv_b_e h
  have z14_ := rv_ix_e g13_
  refine re_sld (pc := 779) (L := L) (xs := xs) rfl z14_.1 (by decide +kernel : decode cL_law 779 = .ok (.iaload, 1)) ?_
  refine re_nI (congrArg xs z14_.2.symm) ?_
  obtain ⟨u15_, g16_, h⟩ := rv_b_e h
  obtain ⟨x18_, S19_, g20_, h⟩ := rv_bp_e h
  have m17_ := metX13_given n S a2 (xs j12_) _ _ g20_
  have z21_ : rv_same S S19_ := m17_.sh rfl
  have o22_ : a1 < 64 + S19_.1.length := by rw [z21_.1]; exact (rv_vl_e g1_)
  have o23_ : a2 < 64 + S19_.1.length := by rw [z21_.1]; exact (rv_vl_e g2_)
  have o24_ : a3 < 64 + S19_.1.length := by rw [z21_.1]; exact (rv_vl_e g3_)
  refine re_cV (pc := 780) [.int (xs j12_)] m17_ (rv_okl.k z21_) (rv_up.sh z21_) (by decide) (rv_ck_e g16_) ⟨by decide, rfl⟩ (Nat.le_of_ble_eq_true rfl) lVL_90 rfl (by decide +kernel : decode cL_law 780 = .ok (.invokevirtual 90, 3)) ?_
  rcases rv_if_e h with ⟨g25_, h⟩ | ⟨g25_, h⟩
  · refine re_icmp_eq_t (pc := 783) 1836 (by decide +kernel : decode cL_law 783 = .ok (.if_icmp .eq 1053, 3)) (by decide) g25_ ?_
    obtain ⟨x26_, g27_, h⟩ := rv_lt_e h
    refine re_iinc (pc := 1836) 4 x26_ (lv1 := [(4, .int x26_), (0, .ref 25), (1, .ref a1), (2, .ref a2), (3, .ref a3)]) (by decide +kernel : decode cL_law 1836 = .ok (.iinc 4 6, 3)) rfl g27_ (Nat.le_of_ble_eq_true rfl) rfl ?_
    refine re_goto (pc := 1839) 23 (by decide +kernel : decode cL_law 1839 = .ok (.goto (-1816), 3)) (by decide) ?_
    refine re_sub [1, 2, 3, 4, 0] (lv1 := [(0, .ref 25), (1, .ref a1), (2, .ref a2), (3, .ref a3), (4, .int x26_)]) rfl ?_
    exact hK23 a1 a2 a3 x26_ S19_ _ _ h
  · refine re_icmp_eq_f (pc := 783) 1836 (by decide +kernel : decode cL_law 783 = .ok (.if_icmp .eq 1053, 3)) (by decide) g25_ ?_
    refine re_iconst (pc := 786) (0 : Int32) (by decide +kernel : decode cL_law 786 = .ok (.iconst 0, 1)) (by decide) ?_
    cases h
    exact re_iret (fun ty hty => by cases hty; rfl) (by decide +kernel : decode cL_law 787 = .ok (.ireturn, 1))
noncomputable def cL_law_788 (n : Nat) (L : Nat) (xs : Nat → Int32) (K23 : Nat → Nat → Nat → Int32 → rvS → Option (Int32 × rvS)) (S : rvS) (a1 : Nat) (a2 : Nat) (a3 : Nat) (x4 : Int32) : Option (Int32 × rvS) :=
  (rv_vl S a1).bind fun _ =>
  (rv_vl S a2).bind fun _ =>
  (rv_vl S a3).bind fun _ =>
  (rv_ix L (x4 + (1 : Int32))).bind fun j4_ =>
  (rv_ix L (x4 + (2 : Int32))).bind fun j7_ =>
  (rv_ix L (x4 + (3 : Int32))).bind fun j10_ =>
  (rv_ck S 10 a1).bind fun u13_ =>
  rv_bp (fnX12_settle n S a1 (xs j4_) (xs j7_) (xs j10_)) fun x16_ S17_ =>
  (rv_ix L (x4 + (1 : Int32))).bind fun j23_ =>
  (rv_ix L (x4 + (2 : Int32))).bind fun j26_ =>
  (rv_ix L (x4 + (3 : Int32))).bind fun j29_ =>
  (rv_ck S17_ 11 a2).bind fun u32_ =>
  rv_bp (fnX13_settle n S17_ a2 (xs j23_) (xs j26_) (xs j29_)) fun x35_ S36_ =>
  if x16_ = x35_ then (
    rv_lt (x4 + (6)) fun x43_ =>
    K23 a1 a2 a3 x43_ S36_)
  else (
    some ((0 : Int32), S36_))
set_option maxRecDepth 20000 in
set_option maxHeartbeats 4000000 in
theorem eL_law_788 (n : Nat) (L : Nat) (xs : Nat → Int32) (K23 : Nat → Nat → Nat → Int32 → rvS → Option (Int32 × rvS)) (hK23 : ∀ (a1 : Nat) (a2 : Nat) (a3 : Nat) (x4 : Int32) (S : rvS) (r : Int32) (S' : rvS), K23 a1 a2 a3 x4 S = some (r, S') → rv_Ev (mL_law L xs) 200 23 [(0, .ref 25), (1, .ref a1), (2, .ref a2), (3, .ref a3), (4, .int x4)] [] S (some (.int r)) S') (S : rvS) (a1 : Nat) (a2 : Nat) (a3 : Nat) (x4 : Int32) (r : Int32) (S' : rvS) (h : cL_law_788 n L xs K23 S a1 a2 a3 x4 = some (r, S')) : rv_Ev (mL_law L xs) 200 788 [(0, .ref 25), (1, .ref a1), (2, .ref a2), (3, .ref a3), (4, .int x4)] [] S (some (.int r)) S' := by
  unfold cL_law_788 at h
  obtain ⟨_, g1_, h⟩ := rv_b_e h
  obtain ⟨_, g2_, h⟩ := rv_b_e h
  obtain ⟨_, g3_, h⟩ := rv_b_e h
  refine re_aloadn (pc := 788) 1 (by decide +kernel : decode cL_law 788 = .ok (.aload_n 1, 1)) rfl ?_
  refine re_aloadn (pc := 789) 0 (by decide +kernel : decode cL_law 789 = .ok (.aload_n 0, 1)) rfl ?_
  refine re_iload (pc := 790) 4 (by decide +kernel : decode cL_law 790 = .ok (.iload 4, 2)) rfl ?_
  refine re_iconst (pc := 792) (1 : Int32) (by decide +kernel : decode cL_law 792 = .ok (.iconst 1, 1)) (by decide) ?_
  refine re_iadd (pc := 793) (by decide +kernel : decode cL_law 793 = .ok (.iadd, 1)) ?_
  obtain ⟨j4_, g5_, h⟩ := rv_b_e h
  have z6_ := rv_ix_e g5_
  refine re_sld (pc := 794) (L := L) (xs := xs) rfl z6_.1 (by decide +kernel : decode cL_law 794 = .ok (.iaload, 1)) ?_
  refine re_nI (congrArg xs z6_.2.symm) ?_
  refine re_aloadn (pc := 795) 0 (by decide +kernel : decode cL_law 795 = .ok (.aload_n 0, 1)) rfl ?_
  refine re_iload (pc := 796) 4 (by decide +kernel : decode cL_law 796 = .ok (.iload 4, 2)) rfl ?_
  refine re_iconst (pc := 798) (2 : Int32) (by decide +kernel : decode cL_law 798 = .ok (.iconst 2, 1)) (by decide) ?_
  refine re_iadd (pc := 799) (by decide +kernel : decode cL_law 799 = .ok (.iadd, 1)) ?_
  obtain ⟨j7_, g8_, h⟩ := rv_b_e h
  have z9_ := rv_ix_e g8_
  refine re_sld (pc := 800) (L := L) (xs := xs) rfl z9_.1 (by decide +kernel : decode cL_law 800 = .ok (.iaload, 1)) ?_
  refine re_nI (congrArg xs z9_.2.symm) ?_
  refine re_aloadn (pc := 801) 0 (by decide +kernel : decode cL_law 801 = .ok (.aload_n 0, 1)) rfl ?_
  refine re_iload (pc := 802) 4 (by decide +kernel : decode cL_law 802 = .ok (.iload 4, 2)) rfl ?_
  refine re_iconst (pc := 804) (3 : Int32) (by decide +kernel : decode cL_law 804 = .ok (.iconst 3, 1)) (by decide) ?_
  refine re_iadd (pc := 805) (by decide +kernel : decode cL_law 805 = .ok (.iadd, 1)) ?_
  obtain ⟨j10_, g11_, h⟩ := rv_b_e h
  have z12_ := rv_ix_e g11_
  refine re_sld (pc := 806) (L := L) (xs := xs) rfl z12_.1 (by decide +kernel : decode cL_law 806 = .ok (.iaload, 1)) ?_
  refine re_nI (congrArg xs z12_.2.symm) ?_
  obtain ⟨u13_, g14_, h⟩ := rv_b_e h
  obtain ⟨x16_, S17_, g18_, h⟩ := rv_bp_e h
  have m15_ := metX12_settle n S a1 (xs j4_) (xs j7_) (xs j10_) _ _ g18_
  have z19_ : rv_same S S17_ := m15_.sh rfl
  have o20_ : a1 < 64 + S17_.1.length := by rw [z19_.1]; exact (rv_vl_e g1_)
  have o21_ : a2 < 64 + S17_.1.length := by rw [z19_.1]; exact (rv_vl_e g2_)
  have o22_ : a3 < 64 + S17_.1.length := by rw [z19_.1]; exact (rv_vl_e g3_)
  refine re_cV (pc := 807) [.int (xs j4_), .int (xs j7_), .int (xs j10_)] m15_ (rv_okl.k z19_) (rv_up.sh z19_) (by decide) (rv_ck_e g14_) ⟨by decide, rfl⟩ (Nat.le_of_ble_eq_true rfl) lVL_91 rfl (by decide +kernel : decode cL_law 807 = .ok (.invokevirtual 91, 3)) ?_
  refine re_aloadn (pc := 810) 2 (by decide +kernel : decode cL_law 810 = .ok (.aload_n 2, 1)) rfl ?_
  refine re_aloadn (pc := 811) 0 (by decide +kernel : decode cL_law 811 = .ok (.aload_n 0, 1)) rfl ?_
  refine re_iload (pc := 812) 4 (by decide +kernel : decode cL_law 812 = .ok (.iload 4, 2)) rfl ?_
  refine re_iconst (pc := 814) (1 : Int32) (by decide +kernel : decode cL_law 814 = .ok (.iconst 1, 1)) (by decide) ?_
  refine re_iadd (pc := 815) (by decide +kernel : decode cL_law 815 = .ok (.iadd, 1)) ?_
  obtain ⟨j23_, g24_, h⟩ := rv_b_e h
  have z25_ := rv_ix_e g24_
  refine re_sld (pc := 816) (L := L) (xs := xs) rfl z25_.1 (by decide +kernel : decode cL_law 816 = .ok (.iaload, 1)) ?_
  refine re_nI (congrArg xs z25_.2.symm) ?_
  refine re_aloadn (pc := 817) 0 (by decide +kernel : decode cL_law 817 = .ok (.aload_n 0, 1)) rfl ?_
  refine re_iload (pc := 818) 4 (by decide +kernel : decode cL_law 818 = .ok (.iload 4, 2)) rfl ?_
  refine re_iconst (pc := 820) (2 : Int32) (by decide +kernel : decode cL_law 820 = .ok (.iconst 2, 1)) (by decide) ?_
  refine re_iadd (pc := 821) (by decide +kernel : decode cL_law 821 = .ok (.iadd, 1)) ?_
  obtain ⟨j26_, g27_, h⟩ := rv_b_e h
  have z28_ := rv_ix_e g27_
  refine re_sld (pc := 822) (L := L) (xs := xs) rfl z28_.1 (by decide +kernel : decode cL_law 822 = .ok (.iaload, 1)) ?_
  refine re_nI (congrArg xs z28_.2.symm) ?_
  refine re_aloadn (pc := 823) 0 (by decide +kernel : decode cL_law 823 = .ok (.aload_n 0, 1)) rfl ?_
  refine re_iload (pc := 824) 4 (by decide +kernel : decode cL_law 824 = .ok (.iload 4, 2)) rfl ?_
  refine re_iconst (pc := 826) (3 : Int32) (by decide +kernel : decode cL_law 826 = .ok (.iconst 3, 1)) (by decide) ?_
  refine re_iadd (pc := 827) (by decide +kernel : decode cL_law 827 = .ok (.iadd, 1)) ?_
  obtain ⟨j29_, g30_, h⟩ := rv_b_e h
  have z31_ := rv_ix_e g30_
  refine re_sld (pc := 828) (L := L) (xs := xs) rfl z31_.1 (by decide +kernel : decode cL_law 828 = .ok (.iaload, 1)) ?_
  refine re_nI (congrArg xs z31_.2.symm) ?_
  obtain ⟨u32_, g33_, h⟩ := rv_b_e h
  obtain ⟨x35_, S36_, g37_, h⟩ := rv_bp_e h
  have m34_ := metX13_settle n S17_ a2 (xs j23_) (xs j26_) (xs j29_) _ _ g37_
  have z38_ : rv_same S17_ S36_ := m34_.sh rfl
  have o39_ : a1 < 64 + S36_.1.length := by rw [z38_.1]; exact o20_
  have o40_ : a2 < 64 + S36_.1.length := by rw [z38_.1]; exact o21_
  have o41_ : a3 < 64 + S36_.1.length := by rw [z38_.1]; exact o22_
  refine re_cV (pc := 829) [.int (xs j23_), .int (xs j26_), .int (xs j29_)] m34_ (rv_okl.k z38_) (rv_up.sh z38_) (by decide) (rv_ck_e g33_) ⟨by decide, rfl⟩ (Nat.le_of_ble_eq_true rfl) lVL_94 rfl (by decide +kernel : decode cL_law 829 = .ok (.invokevirtual 94, 3)) ?_
  rcases rv_if_e h with ⟨g42_, h⟩ | ⟨g42_, h⟩
  · refine re_icmp_eq_t (pc := 832) 1836 (by decide +kernel : decode cL_law 832 = .ok (.if_icmp .eq 1004, 3)) (by decide) g42_ ?_
    obtain ⟨x43_, g44_, h⟩ := rv_lt_e h
    refine re_iinc (pc := 1836) 4 x43_ (lv1 := [(4, .int x43_), (0, .ref 25), (1, .ref a1), (2, .ref a2), (3, .ref a3)]) (by decide +kernel : decode cL_law 1836 = .ok (.iinc 4 6, 3)) rfl g44_ (Nat.le_of_ble_eq_true rfl) rfl ?_
    refine re_goto (pc := 1839) 23 (by decide +kernel : decode cL_law 1839 = .ok (.goto (-1816), 3)) (by decide) ?_
    refine re_sub [1, 2, 3, 4, 0] (lv1 := [(0, .ref 25), (1, .ref a1), (2, .ref a2), (3, .ref a3), (4, .int x43_)]) rfl ?_
    exact hK23 a1 a2 a3 x43_ S36_ _ _ h
  · refine re_icmp_eq_f (pc := 832) 1836 (by decide +kernel : decode cL_law 832 = .ok (.if_icmp .eq 1004, 3)) (by decide) g42_ ?_
    refine re_iconst (pc := 835) (0 : Int32) (by decide +kernel : decode cL_law 835 = .ok (.iconst 0, 1)) (by decide) ?_
    cases h
    exact re_iret (fun ty hty => by cases hty; rfl) (by decide +kernel : decode cL_law 836 = .ok (.ireturn, 1))
noncomputable def cL_law_837 (n : Nat) (L : Nat) (xs : Nat → Int32) (K23 : Nat → Nat → Nat → Int32 → rvS → Option (Int32 × rvS)) (S : rvS) (a1 : Nat) (a2 : Nat) (a3 : Nat) (x4 : Int32) : Option (Int32 × rvS) :=
  (rv_vl S a1).bind fun _ =>
  (rv_vl S a2).bind fun _ =>
  (rv_vl S a3).bind fun _ =>
  (rv_ix L (x4 + (1 : Int32))).bind fun j4_ =>
  (rv_ix L (x4 + (2 : Int32))).bind fun j7_ =>
  (rv_ck S 10 a1).bind fun u10_ =>
  (fnX12_most n S a1 (xs j4_) (xs j7_)).bind fun x13_ =>
  (rv_ix L (x4 + (1 : Int32))).bind fun j15_ =>
  (rv_ix L (x4 + (2 : Int32))).bind fun j18_ =>
  (rv_ck S 11 a2).bind fun u21_ =>
  rv_bp (fnX13_most n S a2 (xs j15_) (xs j18_)) fun x24_ S25_ =>
  if x13_ = x24_ then (
    rv_lt (x4 + (6)) fun x32_ =>
    K23 a1 a2 a3 x32_ S25_)
  else (
    some ((0 : Int32), S25_))
set_option maxRecDepth 20000 in
set_option maxHeartbeats 4000000 in
theorem eL_law_837 (n : Nat) (L : Nat) (xs : Nat → Int32) (K23 : Nat → Nat → Nat → Int32 → rvS → Option (Int32 × rvS)) (hK23 : ∀ (a1 : Nat) (a2 : Nat) (a3 : Nat) (x4 : Int32) (S : rvS) (r : Int32) (S' : rvS), K23 a1 a2 a3 x4 S = some (r, S') → rv_Ev (mL_law L xs) 200 23 [(0, .ref 25), (1, .ref a1), (2, .ref a2), (3, .ref a3), (4, .int x4)] [] S (some (.int r)) S') (S : rvS) (a1 : Nat) (a2 : Nat) (a3 : Nat) (x4 : Int32) (r : Int32) (S' : rvS) (h : cL_law_837 n L xs K23 S a1 a2 a3 x4 = some (r, S')) : rv_Ev (mL_law L xs) 200 837 [(0, .ref 25), (1, .ref a1), (2, .ref a2), (3, .ref a3), (4, .int x4)] [] S (some (.int r)) S' := by
  unfold cL_law_837 at h
  obtain ⟨_, g1_, h⟩ := rv_b_e h
  obtain ⟨_, g2_, h⟩ := rv_b_e h
  obtain ⟨_, g3_, h⟩ := rv_b_e h
  refine re_aloadn (pc := 837) 1 (by decide +kernel : decode cL_law 837 = .ok (.aload_n 1, 1)) rfl ?_
  refine re_aloadn (pc := 838) 0 (by decide +kernel : decode cL_law 838 = .ok (.aload_n 0, 1)) rfl ?_
  refine re_iload (pc := 839) 4 (by decide +kernel : decode cL_law 839 = .ok (.iload 4, 2)) rfl ?_
  refine re_iconst (pc := 841) (1 : Int32) (by decide +kernel : decode cL_law 841 = .ok (.iconst 1, 1)) (by decide) ?_
  refine re_iadd (pc := 842) (by decide +kernel : decode cL_law 842 = .ok (.iadd, 1)) ?_
  obtain ⟨j4_, g5_, h⟩ := rv_b_e h
  have z6_ := rv_ix_e g5_
  refine re_sld (pc := 843) (L := L) (xs := xs) rfl z6_.1 (by decide +kernel : decode cL_law 843 = .ok (.iaload, 1)) ?_
  refine re_nI (congrArg xs z6_.2.symm) ?_
  refine re_aloadn (pc := 844) 0 (by decide +kernel : decode cL_law 844 = .ok (.aload_n 0, 1)) rfl ?_
  refine re_iload (pc := 845) 4 (by decide +kernel : decode cL_law 845 = .ok (.iload 4, 2)) rfl ?_
  refine re_iconst (pc := 847) (2 : Int32) (by decide +kernel : decode cL_law 847 = .ok (.iconst 2, 1)) (by decide) ?_
  refine re_iadd (pc := 848) (by decide +kernel : decode cL_law 848 = .ok (.iadd, 1)) ?_
  obtain ⟨j7_, g8_, h⟩ := rv_b_e h
  have z9_ := rv_ix_e g8_
  refine re_sld (pc := 849) (L := L) (xs := xs) rfl z9_.1 (by decide +kernel : decode cL_law 849 = .ok (.iaload, 1)) ?_
  refine re_nI (congrArg xs z9_.2.symm) ?_
  obtain ⟨u10_, g11_, h⟩ := rv_b_e h
  obtain ⟨x13_, g14_, h⟩ := rv_b_e h
  have m12_ := metX12_most n S a1 (xs j4_) (xs j7_) _ g14_
  refine re_cV (pc := 850) [.int (xs j4_), .int (xs j7_)] m12_ (rv_okl.k ⟨rfl, rfl⟩) (rv_up.rf _ _) (by decide) (rv_ck_e g11_) ⟨by decide, rfl⟩ (Nat.le_of_ble_eq_true rfl) lVL_95 rfl (by decide +kernel : decode cL_law 850 = .ok (.invokevirtual 95, 3)) ?_
  refine re_aloadn (pc := 853) 2 (by decide +kernel : decode cL_law 853 = .ok (.aload_n 2, 1)) rfl ?_
  refine re_aloadn (pc := 854) 0 (by decide +kernel : decode cL_law 854 = .ok (.aload_n 0, 1)) rfl ?_
  refine re_iload (pc := 855) 4 (by decide +kernel : decode cL_law 855 = .ok (.iload 4, 2)) rfl ?_
  refine re_iconst (pc := 857) (1 : Int32) (by decide +kernel : decode cL_law 857 = .ok (.iconst 1, 1)) (by decide) ?_
  refine re_iadd (pc := 858) (by decide +kernel : decode cL_law 858 = .ok (.iadd, 1)) ?_
  obtain ⟨j15_, g16_, h⟩ := rv_b_e h
  have z17_ := rv_ix_e g16_
  refine re_sld (pc := 859) (L := L) (xs := xs) rfl z17_.1 (by decide +kernel : decode cL_law 859 = .ok (.iaload, 1)) ?_
  refine re_nI (congrArg xs z17_.2.symm) ?_
  refine re_aloadn (pc := 860) 0 (by decide +kernel : decode cL_law 860 = .ok (.aload_n 0, 1)) rfl ?_
  refine re_iload (pc := 861) 4 (by decide +kernel : decode cL_law 861 = .ok (.iload 4, 2)) rfl ?_
  refine re_iconst (pc := 863) (2 : Int32) (by decide +kernel : decode cL_law 863 = .ok (.iconst 2, 1)) (by decide) ?_
  refine re_iadd (pc := 864) (by decide +kernel : decode cL_law 864 = .ok (.iadd, 1)) ?_
  obtain ⟨j18_, g19_, h⟩ := rv_b_e h
  have z20_ := rv_ix_e g19_
  refine re_sld (pc := 865) (L := L) (xs := xs) rfl z20_.1 (by decide +kernel : decode cL_law 865 = .ok (.iaload, 1)) ?_
  refine re_nI (congrArg xs z20_.2.symm) ?_
  obtain ⟨u21_, g22_, h⟩ := rv_b_e h
  obtain ⟨x24_, S25_, g26_, h⟩ := rv_bp_e h
  have m23_ := metX13_most n S a2 (xs j15_) (xs j18_) _ _ g26_
  have z27_ : rv_same S S25_ := m23_.sh rfl
  have o28_ : a1 < 64 + S25_.1.length := by rw [z27_.1]; exact (rv_vl_e g1_)
  have o29_ : a2 < 64 + S25_.1.length := by rw [z27_.1]; exact (rv_vl_e g2_)
  have o30_ : a3 < 64 + S25_.1.length := by rw [z27_.1]; exact (rv_vl_e g3_)
  refine re_cV (pc := 866) [.int (xs j15_), .int (xs j18_)] m23_ (rv_okl.k z27_) (rv_up.sh z27_) (by decide) (rv_ck_e g22_) ⟨by decide, rfl⟩ (Nat.le_of_ble_eq_true rfl) lVL_98 rfl (by decide +kernel : decode cL_law 866 = .ok (.invokevirtual 98, 3)) ?_
  rcases rv_if_e h with ⟨g31_, h⟩ | ⟨g31_, h⟩
  · refine re_icmp_eq_t (pc := 869) 1836 (by decide +kernel : decode cL_law 869 = .ok (.if_icmp .eq 967, 3)) (by decide) g31_ ?_
    obtain ⟨x32_, g33_, h⟩ := rv_lt_e h
    refine re_iinc (pc := 1836) 4 x32_ (lv1 := [(4, .int x32_), (0, .ref 25), (1, .ref a1), (2, .ref a2), (3, .ref a3)]) (by decide +kernel : decode cL_law 1836 = .ok (.iinc 4 6, 3)) rfl g33_ (Nat.le_of_ble_eq_true rfl) rfl ?_
    refine re_goto (pc := 1839) 23 (by decide +kernel : decode cL_law 1839 = .ok (.goto (-1816), 3)) (by decide) ?_
    refine re_sub [1, 2, 3, 4, 0] (lv1 := [(0, .ref 25), (1, .ref a1), (2, .ref a2), (3, .ref a3), (4, .int x32_)]) rfl ?_
    exact hK23 a1 a2 a3 x32_ S25_ _ _ h
  · refine re_icmp_eq_f (pc := 869) 1836 (by decide +kernel : decode cL_law 869 = .ok (.if_icmp .eq 967, 3)) (by decide) g31_ ?_
    refine re_iconst (pc := 872) (0 : Int32) (by decide +kernel : decode cL_law 872 = .ok (.iconst 0, 1)) (by decide) ?_
    cases h
    exact re_iret (fun ty hty => by cases hty; rfl) (by decide +kernel : decode cL_law 873 = .ok (.ireturn, 1))
noncomputable def cL_law_874 (n : Nat) (L : Nat) (xs : Nat → Int32) (K23 : Nat → Nat → Nat → Int32 → rvS → Option (Int32 × rvS)) (S : rvS) (a1 : Nat) (a2 : Nat) (a3 : Nat) (x4 : Int32) : Option (Int32 × rvS) :=
  (rv_vl S a1).bind fun _ =>
  (rv_vl S a2).bind fun _ =>
  (rv_vl S a3).bind fun _ =>
  (rv_ix L (x4 + (1 : Int32))).bind fun j4_ =>
  (rv_ix L (x4 + (2 : Int32))).bind fun j7_ =>
  (rv_ck S 10 a1).bind fun u10_ =>
  rv_bp (fnX12_payable n S a1 (xs j4_) (xs j7_)) fun x13_ S14_ =>
  (rv_ix L (x4 + (1 : Int32))).bind fun j20_ =>
  (rv_ix L (x4 + (2 : Int32))).bind fun j23_ =>
  (rv_ck S14_ 11 a2).bind fun u26_ =>
  rv_bp (fnX13_payable n S14_ a2 (xs j20_) (xs j23_)) fun x29_ S30_ =>
  if x13_ = x29_ then (
    rv_lt (x4 + (6)) fun x37_ =>
    K23 a1 a2 a3 x37_ S30_)
  else (
    some ((0 : Int32), S30_))
set_option maxRecDepth 20000 in
set_option maxHeartbeats 4000000 in
theorem eL_law_874 (n : Nat) (L : Nat) (xs : Nat → Int32) (K23 : Nat → Nat → Nat → Int32 → rvS → Option (Int32 × rvS)) (hK23 : ∀ (a1 : Nat) (a2 : Nat) (a3 : Nat) (x4 : Int32) (S : rvS) (r : Int32) (S' : rvS), K23 a1 a2 a3 x4 S = some (r, S') → rv_Ev (mL_law L xs) 200 23 [(0, .ref 25), (1, .ref a1), (2, .ref a2), (3, .ref a3), (4, .int x4)] [] S (some (.int r)) S') (S : rvS) (a1 : Nat) (a2 : Nat) (a3 : Nat) (x4 : Int32) (r : Int32) (S' : rvS) (h : cL_law_874 n L xs K23 S a1 a2 a3 x4 = some (r, S')) : rv_Ev (mL_law L xs) 200 874 [(0, .ref 25), (1, .ref a1), (2, .ref a2), (3, .ref a3), (4, .int x4)] [] S (some (.int r)) S' := by
  unfold cL_law_874 at h
  obtain ⟨_, g1_, h⟩ := rv_b_e h
  obtain ⟨_, g2_, h⟩ := rv_b_e h
  obtain ⟨_, g3_, h⟩ := rv_b_e h
  refine re_aloadn (pc := 874) 1 (by decide +kernel : decode cL_law 874 = .ok (.aload_n 1, 1)) rfl ?_
  refine re_aloadn (pc := 875) 0 (by decide +kernel : decode cL_law 875 = .ok (.aload_n 0, 1)) rfl ?_
  refine re_iload (pc := 876) 4 (by decide +kernel : decode cL_law 876 = .ok (.iload 4, 2)) rfl ?_
  refine re_iconst (pc := 878) (1 : Int32) (by decide +kernel : decode cL_law 878 = .ok (.iconst 1, 1)) (by decide) ?_
  refine re_iadd (pc := 879) (by decide +kernel : decode cL_law 879 = .ok (.iadd, 1)) ?_
  obtain ⟨j4_, g5_, h⟩ := rv_b_e h
  have z6_ := rv_ix_e g5_
  refine re_sld (pc := 880) (L := L) (xs := xs) rfl z6_.1 (by decide +kernel : decode cL_law 880 = .ok (.iaload, 1)) ?_
  refine re_nI (congrArg xs z6_.2.symm) ?_
  refine re_aloadn (pc := 881) 0 (by decide +kernel : decode cL_law 881 = .ok (.aload_n 0, 1)) rfl ?_
  refine re_iload (pc := 882) 4 (by decide +kernel : decode cL_law 882 = .ok (.iload 4, 2)) rfl ?_
  refine re_iconst (pc := 884) (2 : Int32) (by decide +kernel : decode cL_law 884 = .ok (.iconst 2, 1)) (by decide) ?_
  refine re_iadd (pc := 885) (by decide +kernel : decode cL_law 885 = .ok (.iadd, 1)) ?_
  obtain ⟨j7_, g8_, h⟩ := rv_b_e h
  have z9_ := rv_ix_e g8_
  refine re_sld (pc := 886) (L := L) (xs := xs) rfl z9_.1 (by decide +kernel : decode cL_law 886 = .ok (.iaload, 1)) ?_
  refine re_nI (congrArg xs z9_.2.symm) ?_
  obtain ⟨u10_, g11_, h⟩ := rv_b_e h
  obtain ⟨x13_, S14_, g15_, h⟩ := rv_bp_e h
  have m12_ := metX12_payable n S a1 (xs j4_) (xs j7_) _ _ g15_
  have z16_ : rv_same S S14_ := m12_.sh rfl
  have o17_ : a1 < 64 + S14_.1.length := by rw [z16_.1]; exact (rv_vl_e g1_)
  have o18_ : a2 < 64 + S14_.1.length := by rw [z16_.1]; exact (rv_vl_e g2_)
  have o19_ : a3 < 64 + S14_.1.length := by rw [z16_.1]; exact (rv_vl_e g3_)
  refine re_cV (pc := 887) [.int (xs j4_), .int (xs j7_)] m12_ (rv_okl.k z16_) (rv_up.sh z16_) (by decide) (rv_ck_e g11_) ⟨by decide, rfl⟩ (Nat.le_of_ble_eq_true rfl) lVL_99 rfl (by decide +kernel : decode cL_law 887 = .ok (.invokevirtual 99, 3)) ?_
  refine re_aloadn (pc := 890) 2 (by decide +kernel : decode cL_law 890 = .ok (.aload_n 2, 1)) rfl ?_
  refine re_aloadn (pc := 891) 0 (by decide +kernel : decode cL_law 891 = .ok (.aload_n 0, 1)) rfl ?_
  refine re_iload (pc := 892) 4 (by decide +kernel : decode cL_law 892 = .ok (.iload 4, 2)) rfl ?_
  refine re_iconst (pc := 894) (1 : Int32) (by decide +kernel : decode cL_law 894 = .ok (.iconst 1, 1)) (by decide) ?_
  refine re_iadd (pc := 895) (by decide +kernel : decode cL_law 895 = .ok (.iadd, 1)) ?_
  obtain ⟨j20_, g21_, h⟩ := rv_b_e h
  have z22_ := rv_ix_e g21_
  refine re_sld (pc := 896) (L := L) (xs := xs) rfl z22_.1 (by decide +kernel : decode cL_law 896 = .ok (.iaload, 1)) ?_
  refine re_nI (congrArg xs z22_.2.symm) ?_
  refine re_aloadn (pc := 897) 0 (by decide +kernel : decode cL_law 897 = .ok (.aload_n 0, 1)) rfl ?_
  refine re_iload (pc := 898) 4 (by decide +kernel : decode cL_law 898 = .ok (.iload 4, 2)) rfl ?_
  refine re_iconst (pc := 900) (2 : Int32) (by decide +kernel : decode cL_law 900 = .ok (.iconst 2, 1)) (by decide) ?_
  refine re_iadd (pc := 901) (by decide +kernel : decode cL_law 901 = .ok (.iadd, 1)) ?_
  obtain ⟨j23_, g24_, h⟩ := rv_b_e h
  have z25_ := rv_ix_e g24_
  refine re_sld (pc := 902) (L := L) (xs := xs) rfl z25_.1 (by decide +kernel : decode cL_law 902 = .ok (.iaload, 1)) ?_
  refine re_nI (congrArg xs z25_.2.symm) ?_
  obtain ⟨u26_, g27_, h⟩ := rv_b_e h
  obtain ⟨x29_, S30_, g31_, h⟩ := rv_bp_e h
  have m28_ := metX13_payable n S14_ a2 (xs j20_) (xs j23_) _ _ g31_
  have z32_ : rv_same S14_ S30_ := m28_.sh rfl
  have o33_ : a1 < 64 + S30_.1.length := by rw [z32_.1]; exact o17_
  have o34_ : a2 < 64 + S30_.1.length := by rw [z32_.1]; exact o18_
  have o35_ : a3 < 64 + S30_.1.length := by rw [z32_.1]; exact o19_
  refine re_cV (pc := 903) [.int (xs j20_), .int (xs j23_)] m28_ (rv_okl.k z32_) (rv_up.sh z32_) (by decide) (rv_ck_e g27_) ⟨by decide, rfl⟩ (Nat.le_of_ble_eq_true rfl) lVL_102 rfl (by decide +kernel : decode cL_law 903 = .ok (.invokevirtual 102, 3)) ?_
  rcases rv_if_e h with ⟨g36_, h⟩ | ⟨g36_, h⟩
  · refine re_icmp_eq_t (pc := 906) 1836 (by decide +kernel : decode cL_law 906 = .ok (.if_icmp .eq 930, 3)) (by decide) g36_ ?_
    obtain ⟨x37_, g38_, h⟩ := rv_lt_e h
    refine re_iinc (pc := 1836) 4 x37_ (lv1 := [(4, .int x37_), (0, .ref 25), (1, .ref a1), (2, .ref a2), (3, .ref a3)]) (by decide +kernel : decode cL_law 1836 = .ok (.iinc 4 6, 3)) rfl g38_ (Nat.le_of_ble_eq_true rfl) rfl ?_
    refine re_goto (pc := 1839) 23 (by decide +kernel : decode cL_law 1839 = .ok (.goto (-1816), 3)) (by decide) ?_
    refine re_sub [1, 2, 3, 4, 0] (lv1 := [(0, .ref 25), (1, .ref a1), (2, .ref a2), (3, .ref a3), (4, .int x37_)]) rfl ?_
    exact hK23 a1 a2 a3 x37_ S30_ _ _ h
  · refine re_icmp_eq_f (pc := 906) 1836 (by decide +kernel : decode cL_law 906 = .ok (.if_icmp .eq 930, 3)) (by decide) g36_ ?_
    refine re_iconst (pc := 909) (0 : Int32) (by decide +kernel : decode cL_law 909 = .ok (.iconst 0, 1)) (by decide) ?_
    cases h
    exact re_iret (fun ty hty => by cases hty; rfl) (by decide +kernel : decode cL_law 910 = .ok (.ireturn, 1))
noncomputable def cL_law_911 (n : Nat) (L : Nat) (xs : Nat → Int32) (K23 : Nat → Nat → Nat → Int32 → rvS → Option (Int32 × rvS)) (S : rvS) (a1 : Nat) (a2 : Nat) (a3 : Nat) (x4 : Int32) : Option (Int32 × rvS) :=
  (rv_vl S a1).bind fun _ =>
  (rv_vl S a2).bind fun _ =>
  (rv_vl S a3).bind fun _ =>
  (rv_ix L (x4 + (1 : Int32))).bind fun j4_ =>
  (rv_ix L (x4 + (2 : Int32))).bind fun j7_ =>
  (rv_ix L (x4 + (3 : Int32))).bind fun j10_ =>
  (rv_ix L (x4 + (4 : Int32))).bind fun j13_ =>
  (rv_ix L (x4 + (5 : Int32))).bind fun j16_ =>
  (rv_ck S 10 a1).bind fun u19_ =>
  rv_bp (fnX12_keep n S a1 (xs j4_) (xs j7_) (xs j10_) (xs j13_) (xs j16_)) fun x22_ S23_ =>
  (rv_ix L (x4 + (1 : Int32))).bind fun j29_ =>
  (rv_ix L (x4 + (2 : Int32))).bind fun j32_ =>
  (rv_ix L (x4 + (3 : Int32))).bind fun j35_ =>
  (rv_ix L (x4 + (4 : Int32))).bind fun j38_ =>
  (rv_ix L (x4 + (5 : Int32))).bind fun j41_ =>
  (rv_ck S23_ 11 a2).bind fun u44_ =>
  rv_bp (fnX13_keep n S23_ a2 (xs j29_) (xs j32_) (xs j35_) (xs j38_) (xs j41_)) fun x47_ S48_ =>
  if x22_ = x47_ then (
    rv_lt (x4 + (6)) fun x55_ =>
    K23 a1 a2 a3 x55_ S48_)
  else (
    some ((0 : Int32), S48_))
set_option maxRecDepth 20000 in
set_option maxHeartbeats 4000000 in
theorem eL_law_911 (n : Nat) (L : Nat) (xs : Nat → Int32) (K23 : Nat → Nat → Nat → Int32 → rvS → Option (Int32 × rvS)) (hK23 : ∀ (a1 : Nat) (a2 : Nat) (a3 : Nat) (x4 : Int32) (S : rvS) (r : Int32) (S' : rvS), K23 a1 a2 a3 x4 S = some (r, S') → rv_Ev (mL_law L xs) 200 23 [(0, .ref 25), (1, .ref a1), (2, .ref a2), (3, .ref a3), (4, .int x4)] [] S (some (.int r)) S') (S : rvS) (a1 : Nat) (a2 : Nat) (a3 : Nat) (x4 : Int32) (r : Int32) (S' : rvS) (h : cL_law_911 n L xs K23 S a1 a2 a3 x4 = some (r, S')) : rv_Ev (mL_law L xs) 200 911 [(0, .ref 25), (1, .ref a1), (2, .ref a2), (3, .ref a3), (4, .int x4)] [] S (some (.int r)) S' := by
  unfold cL_law_911 at h
  obtain ⟨_, g1_, h⟩ := rv_b_e h
  obtain ⟨_, g2_, h⟩ := rv_b_e h
  obtain ⟨_, g3_, h⟩ := rv_b_e h
  refine re_aloadn (pc := 911) 1 (by decide +kernel : decode cL_law 911 = .ok (.aload_n 1, 1)) rfl ?_
  refine re_aloadn (pc := 912) 0 (by decide +kernel : decode cL_law 912 = .ok (.aload_n 0, 1)) rfl ?_
  refine re_iload (pc := 913) 4 (by decide +kernel : decode cL_law 913 = .ok (.iload 4, 2)) rfl ?_
  refine re_iconst (pc := 915) (1 : Int32) (by decide +kernel : decode cL_law 915 = .ok (.iconst 1, 1)) (by decide) ?_
  refine re_iadd (pc := 916) (by decide +kernel : decode cL_law 916 = .ok (.iadd, 1)) ?_
  obtain ⟨j4_, g5_, h⟩ := rv_b_e h
  have z6_ := rv_ix_e g5_
  refine re_sld (pc := 917) (L := L) (xs := xs) rfl z6_.1 (by decide +kernel : decode cL_law 917 = .ok (.iaload, 1)) ?_
  refine re_nI (congrArg xs z6_.2.symm) ?_
  refine re_aloadn (pc := 918) 0 (by decide +kernel : decode cL_law 918 = .ok (.aload_n 0, 1)) rfl ?_
  refine re_iload (pc := 919) 4 (by decide +kernel : decode cL_law 919 = .ok (.iload 4, 2)) rfl ?_
  refine re_iconst (pc := 921) (2 : Int32) (by decide +kernel : decode cL_law 921 = .ok (.iconst 2, 1)) (by decide) ?_
  refine re_iadd (pc := 922) (by decide +kernel : decode cL_law 922 = .ok (.iadd, 1)) ?_
  obtain ⟨j7_, g8_, h⟩ := rv_b_e h
  have z9_ := rv_ix_e g8_
  refine re_sld (pc := 923) (L := L) (xs := xs) rfl z9_.1 (by decide +kernel : decode cL_law 923 = .ok (.iaload, 1)) ?_
  refine re_nI (congrArg xs z9_.2.symm) ?_
  refine re_aloadn (pc := 924) 0 (by decide +kernel : decode cL_law 924 = .ok (.aload_n 0, 1)) rfl ?_
  refine re_iload (pc := 925) 4 (by decide +kernel : decode cL_law 925 = .ok (.iload 4, 2)) rfl ?_
  refine re_iconst (pc := 927) (3 : Int32) (by decide +kernel : decode cL_law 927 = .ok (.iconst 3, 1)) (by decide) ?_
  refine re_iadd (pc := 928) (by decide +kernel : decode cL_law 928 = .ok (.iadd, 1)) ?_
  obtain ⟨j10_, g11_, h⟩ := rv_b_e h
  have z12_ := rv_ix_e g11_
  refine re_sld (pc := 929) (L := L) (xs := xs) rfl z12_.1 (by decide +kernel : decode cL_law 929 = .ok (.iaload, 1)) ?_
  refine re_nI (congrArg xs z12_.2.symm) ?_
  refine re_aloadn (pc := 930) 0 (by decide +kernel : decode cL_law 930 = .ok (.aload_n 0, 1)) rfl ?_
  refine re_iload (pc := 931) 4 (by decide +kernel : decode cL_law 931 = .ok (.iload 4, 2)) rfl ?_
  refine re_iconst (pc := 933) (4 : Int32) (by decide +kernel : decode cL_law 933 = .ok (.iconst 4, 1)) (by decide) ?_
  refine re_iadd (pc := 934) (by decide +kernel : decode cL_law 934 = .ok (.iadd, 1)) ?_
  obtain ⟨j13_, g14_, h⟩ := rv_b_e h
  have z15_ := rv_ix_e g14_
  refine re_sld (pc := 935) (L := L) (xs := xs) rfl z15_.1 (by decide +kernel : decode cL_law 935 = .ok (.iaload, 1)) ?_
  refine re_nI (congrArg xs z15_.2.symm) ?_
  refine re_aloadn (pc := 936) 0 (by decide +kernel : decode cL_law 936 = .ok (.aload_n 0, 1)) rfl ?_
  refine re_iload (pc := 937) 4 (by decide +kernel : decode cL_law 937 = .ok (.iload 4, 2)) rfl ?_
  refine re_iconst (pc := 939) (5 : Int32) (by decide +kernel : decode cL_law 939 = .ok (.iconst 5, 1)) (by decide) ?_
  refine re_iadd (pc := 940) (by decide +kernel : decode cL_law 940 = .ok (.iadd, 1)) ?_
  obtain ⟨j16_, g17_, h⟩ := rv_b_e h
  have z18_ := rv_ix_e g17_
  refine re_sld (pc := 941) (L := L) (xs := xs) rfl z18_.1 (by decide +kernel : decode cL_law 941 = .ok (.iaload, 1)) ?_
  refine re_nI (congrArg xs z18_.2.symm) ?_
  obtain ⟨u19_, g20_, h⟩ := rv_b_e h
  obtain ⟨x22_, S23_, g24_, h⟩ := rv_bp_e h
  have m21_ := metX12_keep n S a1 (xs j4_) (xs j7_) (xs j10_) (xs j13_) (xs j16_) _ _ g24_
  have z25_ : rv_same S S23_ := m21_.sh rfl
  have o26_ : a1 < 64 + S23_.1.length := by rw [z25_.1]; exact (rv_vl_e g1_)
  have o27_ : a2 < 64 + S23_.1.length := by rw [z25_.1]; exact (rv_vl_e g2_)
  have o28_ : a3 < 64 + S23_.1.length := by rw [z25_.1]; exact (rv_vl_e g3_)
  refine re_cV (pc := 942) [.int (xs j4_), .int (xs j7_), .int (xs j10_), .int (xs j13_), .int (xs j16_)] m21_ (rv_okl.k z25_) (rv_up.sh z25_) (by decide) (rv_ck_e g20_) ⟨by decide, rfl⟩ (Nat.le_of_ble_eq_true rfl) lVL_103 rfl (by decide +kernel : decode cL_law 942 = .ok (.invokevirtual 103, 3)) ?_
  refine re_aloadn (pc := 945) 2 (by decide +kernel : decode cL_law 945 = .ok (.aload_n 2, 1)) rfl ?_
  refine re_aloadn (pc := 946) 0 (by decide +kernel : decode cL_law 946 = .ok (.aload_n 0, 1)) rfl ?_
  refine re_iload (pc := 947) 4 (by decide +kernel : decode cL_law 947 = .ok (.iload 4, 2)) rfl ?_
  refine re_iconst (pc := 949) (1 : Int32) (by decide +kernel : decode cL_law 949 = .ok (.iconst 1, 1)) (by decide) ?_
  refine re_iadd (pc := 950) (by decide +kernel : decode cL_law 950 = .ok (.iadd, 1)) ?_
  obtain ⟨j29_, g30_, h⟩ := rv_b_e h
  have z31_ := rv_ix_e g30_
  refine re_sld (pc := 951) (L := L) (xs := xs) rfl z31_.1 (by decide +kernel : decode cL_law 951 = .ok (.iaload, 1)) ?_
  refine re_nI (congrArg xs z31_.2.symm) ?_
  refine re_aloadn (pc := 952) 0 (by decide +kernel : decode cL_law 952 = .ok (.aload_n 0, 1)) rfl ?_
  refine re_iload (pc := 953) 4 (by decide +kernel : decode cL_law 953 = .ok (.iload 4, 2)) rfl ?_
  refine re_iconst (pc := 955) (2 : Int32) (by decide +kernel : decode cL_law 955 = .ok (.iconst 2, 1)) (by decide) ?_
  refine re_iadd (pc := 956) (by decide +kernel : decode cL_law 956 = .ok (.iadd, 1)) ?_
  obtain ⟨j32_, g33_, h⟩ := rv_b_e h
  have z34_ := rv_ix_e g33_
  refine re_sld (pc := 957) (L := L) (xs := xs) rfl z34_.1 (by decide +kernel : decode cL_law 957 = .ok (.iaload, 1)) ?_
  refine re_nI (congrArg xs z34_.2.symm) ?_
  refine re_aloadn (pc := 958) 0 (by decide +kernel : decode cL_law 958 = .ok (.aload_n 0, 1)) rfl ?_
  refine re_iload (pc := 959) 4 (by decide +kernel : decode cL_law 959 = .ok (.iload 4, 2)) rfl ?_
  refine re_iconst (pc := 961) (3 : Int32) (by decide +kernel : decode cL_law 961 = .ok (.iconst 3, 1)) (by decide) ?_
  refine re_iadd (pc := 962) (by decide +kernel : decode cL_law 962 = .ok (.iadd, 1)) ?_
  obtain ⟨j35_, g36_, h⟩ := rv_b_e h
  have z37_ := rv_ix_e g36_
  refine re_sld (pc := 963) (L := L) (xs := xs) rfl z37_.1 (by decide +kernel : decode cL_law 963 = .ok (.iaload, 1)) ?_
  refine re_nI (congrArg xs z37_.2.symm) ?_
  refine re_aloadn (pc := 964) 0 (by decide +kernel : decode cL_law 964 = .ok (.aload_n 0, 1)) rfl ?_
  refine re_iload (pc := 965) 4 (by decide +kernel : decode cL_law 965 = .ok (.iload 4, 2)) rfl ?_
  refine re_iconst (pc := 967) (4 : Int32) (by decide +kernel : decode cL_law 967 = .ok (.iconst 4, 1)) (by decide) ?_
  refine re_iadd (pc := 968) (by decide +kernel : decode cL_law 968 = .ok (.iadd, 1)) ?_
  obtain ⟨j38_, g39_, h⟩ := rv_b_e h
  have z40_ := rv_ix_e g39_
  refine re_sld (pc := 969) (L := L) (xs := xs) rfl z40_.1 (by decide +kernel : decode cL_law 969 = .ok (.iaload, 1)) ?_
  refine re_nI (congrArg xs z40_.2.symm) ?_
  refine re_aloadn (pc := 970) 0 (by decide +kernel : decode cL_law 970 = .ok (.aload_n 0, 1)) rfl ?_
  refine re_iload (pc := 971) 4 (by decide +kernel : decode cL_law 971 = .ok (.iload 4, 2)) rfl ?_
  refine re_iconst (pc := 973) (5 : Int32) (by decide +kernel : decode cL_law 973 = .ok (.iconst 5, 1)) (by decide) ?_
  refine re_iadd (pc := 974) (by decide +kernel : decode cL_law 974 = .ok (.iadd, 1)) ?_
  obtain ⟨j41_, g42_, h⟩ := rv_b_e h
  have z43_ := rv_ix_e g42_
  refine re_sld (pc := 975) (L := L) (xs := xs) rfl z43_.1 (by decide +kernel : decode cL_law 975 = .ok (.iaload, 1)) ?_
  refine re_nI (congrArg xs z43_.2.symm) ?_
  obtain ⟨u44_, g45_, h⟩ := rv_b_e h
  obtain ⟨x47_, S48_, g49_, h⟩ := rv_bp_e h
  have m46_ := metX13_keep n S23_ a2 (xs j29_) (xs j32_) (xs j35_) (xs j38_) (xs j41_) _ _ g49_
  have z50_ : rv_same S23_ S48_ := m46_.sh rfl
  have o51_ : a1 < 64 + S48_.1.length := by rw [z50_.1]; exact o26_
  have o52_ : a2 < 64 + S48_.1.length := by rw [z50_.1]; exact o27_
  have o53_ : a3 < 64 + S48_.1.length := by rw [z50_.1]; exact o28_
  refine re_cV (pc := 976) [.int (xs j29_), .int (xs j32_), .int (xs j35_), .int (xs j38_), .int (xs j41_)] m46_ (rv_okl.k z50_) (rv_up.sh z50_) (by decide) (rv_ck_e g45_) ⟨by decide, rfl⟩ (Nat.le_of_ble_eq_true rfl) lVL_106 rfl (by decide +kernel : decode cL_law 976 = .ok (.invokevirtual 106, 3)) ?_
  rcases rv_if_e h with ⟨g54_, h⟩ | ⟨g54_, h⟩
  · refine re_icmp_eq_t (pc := 979) 1836 (by decide +kernel : decode cL_law 979 = .ok (.if_icmp .eq 857, 3)) (by decide) g54_ ?_
    obtain ⟨x55_, g56_, h⟩ := rv_lt_e h
    refine re_iinc (pc := 1836) 4 x55_ (lv1 := [(4, .int x55_), (0, .ref 25), (1, .ref a1), (2, .ref a2), (3, .ref a3)]) (by decide +kernel : decode cL_law 1836 = .ok (.iinc 4 6, 3)) rfl g56_ (Nat.le_of_ble_eq_true rfl) rfl ?_
    refine re_goto (pc := 1839) 23 (by decide +kernel : decode cL_law 1839 = .ok (.goto (-1816), 3)) (by decide) ?_
    refine re_sub [1, 2, 3, 4, 0] (lv1 := [(0, .ref 25), (1, .ref a1), (2, .ref a2), (3, .ref a3), (4, .int x55_)]) rfl ?_
    exact hK23 a1 a2 a3 x55_ S48_ _ _ h
  · refine re_icmp_eq_f (pc := 979) 1836 (by decide +kernel : decode cL_law 979 = .ok (.if_icmp .eq 857, 3)) (by decide) g54_ ?_
    refine re_iconst (pc := 982) (0 : Int32) (by decide +kernel : decode cL_law 982 = .ok (.iconst 0, 1)) (by decide) ?_
    cases h
    exact re_iret (fun ty hty => by cases hty; rfl) (by decide +kernel : decode cL_law 983 = .ok (.ireturn, 1))
noncomputable def cL_law_984 (n : Nat) (L : Nat) (xs : Nat → Int32) (K23 : Nat → Nat → Nat → Int32 → rvS → Option (Int32 × rvS)) (S : rvS) (a1 : Nat) (a2 : Nat) (a3 : Nat) (x4 : Int32) : Option (Int32 × rvS) :=
  (rv_vl S a1).bind fun _ =>
  (rv_vl S a2).bind fun _ =>
  (rv_vl S a3).bind fun _ =>
  (rv_ix L (x4 + (1 : Int32))).bind fun j4_ =>
  (rv_ix L (x4 + (2 : Int32))).bind fun j7_ =>
  (rv_ck S 10 a1).bind fun u10_ =>
  rv_bp (fnX12_change n S a1 (xs j4_) (xs j7_)) fun x13_ S14_ =>
  (rv_ix L (x4 + (1 : Int32))).bind fun j20_ =>
  (rv_ix L (x4 + (2 : Int32))).bind fun j23_ =>
  (rv_ck S14_ 11 a2).bind fun u26_ =>
  rv_bp (fnX13_change n S14_ a2 (xs j20_) (xs j23_)) fun x29_ S30_ =>
  if x13_ = x29_ then (
    rv_lt (x4 + (6)) fun x37_ =>
    K23 a1 a2 a3 x37_ S30_)
  else (
    some ((0 : Int32), S30_))
set_option maxRecDepth 20000 in
set_option maxHeartbeats 4000000 in
theorem eL_law_984 (n : Nat) (L : Nat) (xs : Nat → Int32) (K23 : Nat → Nat → Nat → Int32 → rvS → Option (Int32 × rvS)) (hK23 : ∀ (a1 : Nat) (a2 : Nat) (a3 : Nat) (x4 : Int32) (S : rvS) (r : Int32) (S' : rvS), K23 a1 a2 a3 x4 S = some (r, S') → rv_Ev (mL_law L xs) 200 23 [(0, .ref 25), (1, .ref a1), (2, .ref a2), (3, .ref a3), (4, .int x4)] [] S (some (.int r)) S') (S : rvS) (a1 : Nat) (a2 : Nat) (a3 : Nat) (x4 : Int32) (r : Int32) (S' : rvS) (h : cL_law_984 n L xs K23 S a1 a2 a3 x4 = some (r, S')) : rv_Ev (mL_law L xs) 200 984 [(0, .ref 25), (1, .ref a1), (2, .ref a2), (3, .ref a3), (4, .int x4)] [] S (some (.int r)) S' := by
  unfold cL_law_984 at h
  obtain ⟨_, g1_, h⟩ := rv_b_e h
  obtain ⟨_, g2_, h⟩ := rv_b_e h
  obtain ⟨_, g3_, h⟩ := rv_b_e h
  refine re_aloadn (pc := 984) 1 (by decide +kernel : decode cL_law 984 = .ok (.aload_n 1, 1)) rfl ?_
  refine re_aloadn (pc := 985) 0 (by decide +kernel : decode cL_law 985 = .ok (.aload_n 0, 1)) rfl ?_
  refine re_iload (pc := 986) 4 (by decide +kernel : decode cL_law 986 = .ok (.iload 4, 2)) rfl ?_
  refine re_iconst (pc := 988) (1 : Int32) (by decide +kernel : decode cL_law 988 = .ok (.iconst 1, 1)) (by decide) ?_
  refine re_iadd (pc := 989) (by decide +kernel : decode cL_law 989 = .ok (.iadd, 1)) ?_
  obtain ⟨j4_, g5_, h⟩ := rv_b_e h
  have z6_ := rv_ix_e g5_
  refine re_sld (pc := 990) (L := L) (xs := xs) rfl z6_.1 (by decide +kernel : decode cL_law 990 = .ok (.iaload, 1)) ?_
  refine re_nI (congrArg xs z6_.2.symm) ?_
  refine re_aloadn (pc := 991) 0 (by decide +kernel : decode cL_law 991 = .ok (.aload_n 0, 1)) rfl ?_
  refine re_iload (pc := 992) 4 (by decide +kernel : decode cL_law 992 = .ok (.iload 4, 2)) rfl ?_
  refine re_iconst (pc := 994) (2 : Int32) (by decide +kernel : decode cL_law 994 = .ok (.iconst 2, 1)) (by decide) ?_
  refine re_iadd (pc := 995) (by decide +kernel : decode cL_law 995 = .ok (.iadd, 1)) ?_
  obtain ⟨j7_, g8_, h⟩ := rv_b_e h
  have z9_ := rv_ix_e g8_
  refine re_sld (pc := 996) (L := L) (xs := xs) rfl z9_.1 (by decide +kernel : decode cL_law 996 = .ok (.iaload, 1)) ?_
  refine re_nI (congrArg xs z9_.2.symm) ?_
  obtain ⟨u10_, g11_, h⟩ := rv_b_e h
  obtain ⟨x13_, S14_, g15_, h⟩ := rv_bp_e h
  have m12_ := metX12_change n S a1 (xs j4_) (xs j7_) _ _ g15_
  have z16_ : rv_same S S14_ := m12_.sh rfl
  have o17_ : a1 < 64 + S14_.1.length := by rw [z16_.1]; exact (rv_vl_e g1_)
  have o18_ : a2 < 64 + S14_.1.length := by rw [z16_.1]; exact (rv_vl_e g2_)
  have o19_ : a3 < 64 + S14_.1.length := by rw [z16_.1]; exact (rv_vl_e g3_)
  refine re_cV (pc := 997) [.int (xs j4_), .int (xs j7_)] m12_ (rv_okl.k z16_) (rv_up.sh z16_) (by decide) (rv_ck_e g11_) ⟨by decide, rfl⟩ (Nat.le_of_ble_eq_true rfl) lVL_107 rfl (by decide +kernel : decode cL_law 997 = .ok (.invokevirtual 107, 3)) ?_
  refine re_aloadn (pc := 1000) 2 (by decide +kernel : decode cL_law 1000 = .ok (.aload_n 2, 1)) rfl ?_
  refine re_aloadn (pc := 1001) 0 (by decide +kernel : decode cL_law 1001 = .ok (.aload_n 0, 1)) rfl ?_
  refine re_iload (pc := 1002) 4 (by decide +kernel : decode cL_law 1002 = .ok (.iload 4, 2)) rfl ?_
  refine re_iconst (pc := 1004) (1 : Int32) (by decide +kernel : decode cL_law 1004 = .ok (.iconst 1, 1)) (by decide) ?_
  refine re_iadd (pc := 1005) (by decide +kernel : decode cL_law 1005 = .ok (.iadd, 1)) ?_
  obtain ⟨j20_, g21_, h⟩ := rv_b_e h
  have z22_ := rv_ix_e g21_
  refine re_sld (pc := 1006) (L := L) (xs := xs) rfl z22_.1 (by decide +kernel : decode cL_law 1006 = .ok (.iaload, 1)) ?_
  refine re_nI (congrArg xs z22_.2.symm) ?_
  refine re_aloadn (pc := 1007) 0 (by decide +kernel : decode cL_law 1007 = .ok (.aload_n 0, 1)) rfl ?_
  refine re_iload (pc := 1008) 4 (by decide +kernel : decode cL_law 1008 = .ok (.iload 4, 2)) rfl ?_
  refine re_iconst (pc := 1010) (2 : Int32) (by decide +kernel : decode cL_law 1010 = .ok (.iconst 2, 1)) (by decide) ?_
  refine re_iadd (pc := 1011) (by decide +kernel : decode cL_law 1011 = .ok (.iadd, 1)) ?_
  obtain ⟨j23_, g24_, h⟩ := rv_b_e h
  have z25_ := rv_ix_e g24_
  refine re_sld (pc := 1012) (L := L) (xs := xs) rfl z25_.1 (by decide +kernel : decode cL_law 1012 = .ok (.iaload, 1)) ?_
  refine re_nI (congrArg xs z25_.2.symm) ?_
  obtain ⟨u26_, g27_, h⟩ := rv_b_e h
  obtain ⟨x29_, S30_, g31_, h⟩ := rv_bp_e h
  have m28_ := metX13_change n S14_ a2 (xs j20_) (xs j23_) _ _ g31_
  have z32_ : rv_same S14_ S30_ := m28_.sh rfl
  have o33_ : a1 < 64 + S30_.1.length := by rw [z32_.1]; exact o17_
  have o34_ : a2 < 64 + S30_.1.length := by rw [z32_.1]; exact o18_
  have o35_ : a3 < 64 + S30_.1.length := by rw [z32_.1]; exact o19_
  refine re_cV (pc := 1013) [.int (xs j20_), .int (xs j23_)] m28_ (rv_okl.k z32_) (rv_up.sh z32_) (by decide) (rv_ck_e g27_) ⟨by decide, rfl⟩ (Nat.le_of_ble_eq_true rfl) lVL_110 rfl (by decide +kernel : decode cL_law 1013 = .ok (.invokevirtual 110, 3)) ?_
  rcases rv_if_e h with ⟨g36_, h⟩ | ⟨g36_, h⟩
  · refine re_icmp_eq_t (pc := 1016) 1836 (by decide +kernel : decode cL_law 1016 = .ok (.if_icmp .eq 820, 3)) (by decide) g36_ ?_
    obtain ⟨x37_, g38_, h⟩ := rv_lt_e h
    refine re_iinc (pc := 1836) 4 x37_ (lv1 := [(4, .int x37_), (0, .ref 25), (1, .ref a1), (2, .ref a2), (3, .ref a3)]) (by decide +kernel : decode cL_law 1836 = .ok (.iinc 4 6, 3)) rfl g38_ (Nat.le_of_ble_eq_true rfl) rfl ?_
    refine re_goto (pc := 1839) 23 (by decide +kernel : decode cL_law 1839 = .ok (.goto (-1816), 3)) (by decide) ?_
    refine re_sub [1, 2, 3, 4, 0] (lv1 := [(0, .ref 25), (1, .ref a1), (2, .ref a2), (3, .ref a3), (4, .int x37_)]) rfl ?_
    exact hK23 a1 a2 a3 x37_ S30_ _ _ h
  · refine re_icmp_eq_f (pc := 1016) 1836 (by decide +kernel : decode cL_law 1016 = .ok (.if_icmp .eq 820, 3)) (by decide) g36_ ?_
    refine re_iconst (pc := 1019) (0 : Int32) (by decide +kernel : decode cL_law 1019 = .ok (.iconst 0, 1)) (by decide) ?_
    cases h
    exact re_iret (fun ty hty => by cases hty; rfl) (by decide +kernel : decode cL_law 1020 = .ok (.ireturn, 1))
noncomputable def cL_law_1021 (n : Nat) (L : Nat) (xs : Nat → Int32) (K23 : Nat → Nat → Nat → Int32 → rvS → Option (Int32 × rvS)) (S : rvS) (a1 : Nat) (a2 : Nat) (a3 : Nat) (x4 : Int32) : Option (Int32 × rvS) :=
  (rv_vl S a1).bind fun _ =>
  (rv_vl S a2).bind fun _ =>
  (rv_vl S a3).bind fun _ =>
  (rv_ix L (x4 + (1 : Int32))).bind fun j4_ =>
  (rv_ck S 10 a1).bind fun u7_ =>
  (fnX12_earned n S a1 (xs j4_)).bind fun x10_ =>
  (rv_ix L (x4 + (1 : Int32))).bind fun j12_ =>
  (rv_ck S 11 a2).bind fun u15_ =>
  rv_bp (fnX13_earned n S a2 (xs j12_)) fun x18_ S19_ =>
  if x10_ = x18_ then (
    rv_lt (x4 + (6)) fun x26_ =>
    K23 a1 a2 a3 x26_ S19_)
  else (
    some ((0 : Int32), S19_))
set_option maxRecDepth 20000 in
set_option maxHeartbeats 4000000 in
theorem eL_law_1021 (n : Nat) (L : Nat) (xs : Nat → Int32) (K23 : Nat → Nat → Nat → Int32 → rvS → Option (Int32 × rvS)) (hK23 : ∀ (a1 : Nat) (a2 : Nat) (a3 : Nat) (x4 : Int32) (S : rvS) (r : Int32) (S' : rvS), K23 a1 a2 a3 x4 S = some (r, S') → rv_Ev (mL_law L xs) 200 23 [(0, .ref 25), (1, .ref a1), (2, .ref a2), (3, .ref a3), (4, .int x4)] [] S (some (.int r)) S') (S : rvS) (a1 : Nat) (a2 : Nat) (a3 : Nat) (x4 : Int32) (r : Int32) (S' : rvS) (h : cL_law_1021 n L xs K23 S a1 a2 a3 x4 = some (r, S')) : rv_Ev (mL_law L xs) 200 1021 [(0, .ref 25), (1, .ref a1), (2, .ref a2), (3, .ref a3), (4, .int x4)] [] S (some (.int r)) S' := by
  unfold cL_law_1021 at h
  obtain ⟨_, g1_, h⟩ := rv_b_e h
  obtain ⟨_, g2_, h⟩ := rv_b_e h
  obtain ⟨_, g3_, h⟩ := rv_b_e h
  refine re_aloadn (pc := 1021) 1 (by decide +kernel : decode cL_law 1021 = .ok (.aload_n 1, 1)) rfl ?_
  refine re_aloadn (pc := 1022) 0 (by decide +kernel : decode cL_law 1022 = .ok (.aload_n 0, 1)) rfl ?_
  refine re_iload (pc := 1023) 4 (by decide +kernel : decode cL_law 1023 = .ok (.iload 4, 2)) rfl ?_
  refine re_iconst (pc := 1025) (1 : Int32) (by decide +kernel : decode cL_law 1025 = .ok (.iconst 1, 1)) (by decide) ?_
  refine re_iadd (pc := 1026) (by decide +kernel : decode cL_law 1026 = .ok (.iadd, 1)) ?_
  obtain ⟨j4_, g5_, h⟩ := rv_b_e h
  have z6_ := rv_ix_e g5_
  refine re_sld (pc := 1027) (L := L) (xs := xs) rfl z6_.1 (by decide +kernel : decode cL_law 1027 = .ok (.iaload, 1)) ?_
  refine re_nI (congrArg xs z6_.2.symm) ?_
  obtain ⟨u7_, g8_, h⟩ := rv_b_e h
  obtain ⟨x10_, g11_, h⟩ := rv_b_e h
  have m9_ := metX12_earned n S a1 (xs j4_) _ g11_
  refine re_cV (pc := 1028) [.int (xs j4_)] m9_ (rv_okl.k ⟨rfl, rfl⟩) (rv_up.rf _ _) (by decide) (rv_ck_e g8_) ⟨by decide, rfl⟩ (Nat.le_of_ble_eq_true rfl) lVL_111 rfl (by decide +kernel : decode cL_law 1028 = .ok (.invokevirtual 111, 3)) ?_
  refine re_aloadn (pc := 1031) 2 (by decide +kernel : decode cL_law 1031 = .ok (.aload_n 2, 1)) rfl ?_
  refine re_aloadn (pc := 1032) 0 (by decide +kernel : decode cL_law 1032 = .ok (.aload_n 0, 1)) rfl ?_
  refine re_iload (pc := 1033) 4 (by decide +kernel : decode cL_law 1033 = .ok (.iload 4, 2)) rfl ?_
  refine re_iconst (pc := 1035) (1 : Int32) (by decide +kernel : decode cL_law 1035 = .ok (.iconst 1, 1)) (by decide) ?_
  refine re_iadd (pc := 1036) (by decide +kernel : decode cL_law 1036 = .ok (.iadd, 1)) ?_
  obtain ⟨j12_, g13_, h⟩ := rv_b_e h
  have z14_ := rv_ix_e g13_
  refine re_sld (pc := 1037) (L := L) (xs := xs) rfl z14_.1 (by decide +kernel : decode cL_law 1037 = .ok (.iaload, 1)) ?_
  refine re_nI (congrArg xs z14_.2.symm) ?_
  obtain ⟨u15_, g16_, h⟩ := rv_b_e h
  obtain ⟨x18_, S19_, g20_, h⟩ := rv_bp_e h
  have m17_ := metX13_earned n S a2 (xs j12_) _ _ g20_
  have z21_ : rv_same S S19_ := m17_.sh rfl
  have o22_ : a1 < 64 + S19_.1.length := by rw [z21_.1]; exact (rv_vl_e g1_)
  have o23_ : a2 < 64 + S19_.1.length := by rw [z21_.1]; exact (rv_vl_e g2_)
  have o24_ : a3 < 64 + S19_.1.length := by rw [z21_.1]; exact (rv_vl_e g3_)
  refine re_cV (pc := 1038) [.int (xs j12_)] m17_ (rv_okl.k z21_) (rv_up.sh z21_) (by decide) (rv_ck_e g16_) ⟨by decide, rfl⟩ (Nat.le_of_ble_eq_true rfl) lVL_114 rfl (by decide +kernel : decode cL_law 1038 = .ok (.invokevirtual 114, 3)) ?_
  rcases rv_if_e h with ⟨g25_, h⟩ | ⟨g25_, h⟩
  · refine re_icmp_eq_t (pc := 1041) 1836 (by decide +kernel : decode cL_law 1041 = .ok (.if_icmp .eq 795, 3)) (by decide) g25_ ?_
    obtain ⟨x26_, g27_, h⟩ := rv_lt_e h
    refine re_iinc (pc := 1836) 4 x26_ (lv1 := [(4, .int x26_), (0, .ref 25), (1, .ref a1), (2, .ref a2), (3, .ref a3)]) (by decide +kernel : decode cL_law 1836 = .ok (.iinc 4 6, 3)) rfl g27_ (Nat.le_of_ble_eq_true rfl) rfl ?_
    refine re_goto (pc := 1839) 23 (by decide +kernel : decode cL_law 1839 = .ok (.goto (-1816), 3)) (by decide) ?_
    refine re_sub [1, 2, 3, 4, 0] (lv1 := [(0, .ref 25), (1, .ref a1), (2, .ref a2), (3, .ref a3), (4, .int x26_)]) rfl ?_
    exact hK23 a1 a2 a3 x26_ S19_ _ _ h
  · refine re_icmp_eq_f (pc := 1041) 1836 (by decide +kernel : decode cL_law 1041 = .ok (.if_icmp .eq 795, 3)) (by decide) g25_ ?_
    refine re_iconst (pc := 1044) (0 : Int32) (by decide +kernel : decode cL_law 1044 = .ok (.iconst 0, 1)) (by decide) ?_
    cases h
    exact re_iret (fun ty hty => by cases hty; rfl) (by decide +kernel : decode cL_law 1045 = .ok (.ireturn, 1))
noncomputable def cL_law_1046 (n : Nat) (L : Nat) (xs : Nat → Int32) (K23 : Nat → Nat → Nat → Int32 → rvS → Option (Int32 × rvS)) (S : rvS) (a1 : Nat) (a2 : Nat) (a3 : Nat) (x4 : Int32) : Option (Int32 × rvS) :=
  (rv_vl S a1).bind fun _ =>
  (rv_vl S a2).bind fun _ =>
  (rv_vl S a3).bind fun _ =>
  (rv_ix L (x4 + (1 : Int32))).bind fun j4_ =>
  (rv_ix L (x4 + (2 : Int32))).bind fun j7_ =>
  (rv_ck S 10 a1).bind fun u10_ =>
  (fnX12_changed n S a1 (xs j4_) (xs j7_)).bind fun x13_ =>
  (rv_ix L (x4 + (1 : Int32))).bind fun j15_ =>
  (rv_ix L (x4 + (2 : Int32))).bind fun j18_ =>
  (rv_ck S 11 a2).bind fun u21_ =>
  rv_bp (fnX13_changed n S a2 (xs j15_) (xs j18_)) fun x24_ S25_ =>
  if x13_ = x24_ then (
    rv_lt (x4 + (6)) fun x32_ =>
    K23 a1 a2 a3 x32_ S25_)
  else (
    some ((0 : Int32), S25_))
set_option maxRecDepth 20000 in
set_option maxHeartbeats 4000000 in
theorem eL_law_1046 (n : Nat) (L : Nat) (xs : Nat → Int32) (K23 : Nat → Nat → Nat → Int32 → rvS → Option (Int32 × rvS)) (hK23 : ∀ (a1 : Nat) (a2 : Nat) (a3 : Nat) (x4 : Int32) (S : rvS) (r : Int32) (S' : rvS), K23 a1 a2 a3 x4 S = some (r, S') → rv_Ev (mL_law L xs) 200 23 [(0, .ref 25), (1, .ref a1), (2, .ref a2), (3, .ref a3), (4, .int x4)] [] S (some (.int r)) S') (S : rvS) (a1 : Nat) (a2 : Nat) (a3 : Nat) (x4 : Int32) (r : Int32) (S' : rvS) (h : cL_law_1046 n L xs K23 S a1 a2 a3 x4 = some (r, S')) : rv_Ev (mL_law L xs) 200 1046 [(0, .ref 25), (1, .ref a1), (2, .ref a2), (3, .ref a3), (4, .int x4)] [] S (some (.int r)) S' := by
  unfold cL_law_1046 at h
  obtain ⟨_, g1_, h⟩ := rv_b_e h
  obtain ⟨_, g2_, h⟩ := rv_b_e h
  obtain ⟨_, g3_, h⟩ := rv_b_e h
  refine re_aloadn (pc := 1046) 1 (by decide +kernel : decode cL_law 1046 = .ok (.aload_n 1, 1)) rfl ?_
  refine re_aloadn (pc := 1047) 0 (by decide +kernel : decode cL_law 1047 = .ok (.aload_n 0, 1)) rfl ?_
  refine re_iload (pc := 1048) 4 (by decide +kernel : decode cL_law 1048 = .ok (.iload 4, 2)) rfl ?_
  refine re_iconst (pc := 1050) (1 : Int32) (by decide +kernel : decode cL_law 1050 = .ok (.iconst 1, 1)) (by decide) ?_
  refine re_iadd (pc := 1051) (by decide +kernel : decode cL_law 1051 = .ok (.iadd, 1)) ?_
  obtain ⟨j4_, g5_, h⟩ := rv_b_e h
  have z6_ := rv_ix_e g5_
  refine re_sld (pc := 1052) (L := L) (xs := xs) rfl z6_.1 (by decide +kernel : decode cL_law 1052 = .ok (.iaload, 1)) ?_
  refine re_nI (congrArg xs z6_.2.symm) ?_
  refine re_aloadn (pc := 1053) 0 (by decide +kernel : decode cL_law 1053 = .ok (.aload_n 0, 1)) rfl ?_
  refine re_iload (pc := 1054) 4 (by decide +kernel : decode cL_law 1054 = .ok (.iload 4, 2)) rfl ?_
  refine re_iconst (pc := 1056) (2 : Int32) (by decide +kernel : decode cL_law 1056 = .ok (.iconst 2, 1)) (by decide) ?_
  refine re_iadd (pc := 1057) (by decide +kernel : decode cL_law 1057 = .ok (.iadd, 1)) ?_
  obtain ⟨j7_, g8_, h⟩ := rv_b_e h
  have z9_ := rv_ix_e g8_
  refine re_sld (pc := 1058) (L := L) (xs := xs) rfl z9_.1 (by decide +kernel : decode cL_law 1058 = .ok (.iaload, 1)) ?_
  refine re_nI (congrArg xs z9_.2.symm) ?_
  obtain ⟨u10_, g11_, h⟩ := rv_b_e h
  obtain ⟨x13_, g14_, h⟩ := rv_b_e h
  have m12_ := metX12_changed n S a1 (xs j4_) (xs j7_) _ g14_
  refine re_cV (pc := 1059) [.int (xs j4_), .int (xs j7_)] m12_ (rv_okl.k ⟨rfl, rfl⟩) (rv_up.rf _ _) (by decide) (rv_ck_e g11_) ⟨by decide, rfl⟩ (Nat.le_of_ble_eq_true rfl) lVL_115 rfl (by decide +kernel : decode cL_law 1059 = .ok (.invokevirtual 115, 3)) ?_
  refine re_aloadn (pc := 1062) 2 (by decide +kernel : decode cL_law 1062 = .ok (.aload_n 2, 1)) rfl ?_
  refine re_aloadn (pc := 1063) 0 (by decide +kernel : decode cL_law 1063 = .ok (.aload_n 0, 1)) rfl ?_
  refine re_iload (pc := 1064) 4 (by decide +kernel : decode cL_law 1064 = .ok (.iload 4, 2)) rfl ?_
  refine re_iconst (pc := 1066) (1 : Int32) (by decide +kernel : decode cL_law 1066 = .ok (.iconst 1, 1)) (by decide) ?_
  refine re_iadd (pc := 1067) (by decide +kernel : decode cL_law 1067 = .ok (.iadd, 1)) ?_
  obtain ⟨j15_, g16_, h⟩ := rv_b_e h
  have z17_ := rv_ix_e g16_
  refine re_sld (pc := 1068) (L := L) (xs := xs) rfl z17_.1 (by decide +kernel : decode cL_law 1068 = .ok (.iaload, 1)) ?_
  refine re_nI (congrArg xs z17_.2.symm) ?_
  refine re_aloadn (pc := 1069) 0 (by decide +kernel : decode cL_law 1069 = .ok (.aload_n 0, 1)) rfl ?_
  refine re_iload (pc := 1070) 4 (by decide +kernel : decode cL_law 1070 = .ok (.iload 4, 2)) rfl ?_
  refine re_iconst (pc := 1072) (2 : Int32) (by decide +kernel : decode cL_law 1072 = .ok (.iconst 2, 1)) (by decide) ?_
  refine re_iadd (pc := 1073) (by decide +kernel : decode cL_law 1073 = .ok (.iadd, 1)) ?_
  obtain ⟨j18_, g19_, h⟩ := rv_b_e h
  have z20_ := rv_ix_e g19_
  refine re_sld (pc := 1074) (L := L) (xs := xs) rfl z20_.1 (by decide +kernel : decode cL_law 1074 = .ok (.iaload, 1)) ?_
  refine re_nI (congrArg xs z20_.2.symm) ?_
  obtain ⟨u21_, g22_, h⟩ := rv_b_e h
  obtain ⟨x24_, S25_, g26_, h⟩ := rv_bp_e h
  have m23_ := metX13_changed n S a2 (xs j15_) (xs j18_) _ _ g26_
  have z27_ : rv_same S S25_ := m23_.sh rfl
  have o28_ : a1 < 64 + S25_.1.length := by rw [z27_.1]; exact (rv_vl_e g1_)
  have o29_ : a2 < 64 + S25_.1.length := by rw [z27_.1]; exact (rv_vl_e g2_)
  have o30_ : a3 < 64 + S25_.1.length := by rw [z27_.1]; exact (rv_vl_e g3_)
  refine re_cV (pc := 1075) [.int (xs j15_), .int (xs j18_)] m23_ (rv_okl.k z27_) (rv_up.sh z27_) (by decide) (rv_ck_e g22_) ⟨by decide, rfl⟩ (Nat.le_of_ble_eq_true rfl) lVL_118 rfl (by decide +kernel : decode cL_law 1075 = .ok (.invokevirtual 118, 3)) ?_
  rcases rv_if_e h with ⟨g31_, h⟩ | ⟨g31_, h⟩
  · refine re_icmp_eq_t (pc := 1078) 1836 (by decide +kernel : decode cL_law 1078 = .ok (.if_icmp .eq 758, 3)) (by decide) g31_ ?_
    obtain ⟨x32_, g33_, h⟩ := rv_lt_e h
    refine re_iinc (pc := 1836) 4 x32_ (lv1 := [(4, .int x32_), (0, .ref 25), (1, .ref a1), (2, .ref a2), (3, .ref a3)]) (by decide +kernel : decode cL_law 1836 = .ok (.iinc 4 6, 3)) rfl g33_ (Nat.le_of_ble_eq_true rfl) rfl ?_
    refine re_goto (pc := 1839) 23 (by decide +kernel : decode cL_law 1839 = .ok (.goto (-1816), 3)) (by decide) ?_
    refine re_sub [1, 2, 3, 4, 0] (lv1 := [(0, .ref 25), (1, .ref a1), (2, .ref a2), (3, .ref a3), (4, .int x32_)]) rfl ?_
    exact hK23 a1 a2 a3 x32_ S25_ _ _ h
  · refine re_icmp_eq_f (pc := 1078) 1836 (by decide +kernel : decode cL_law 1078 = .ok (.if_icmp .eq 758, 3)) (by decide) g31_ ?_
    refine re_iconst (pc := 1081) (0 : Int32) (by decide +kernel : decode cL_law 1081 = .ok (.iconst 0, 1)) (by decide) ?_
    cases h
    exact re_iret (fun ty hty => by cases hty; rfl) (by decide +kernel : decode cL_law 1082 = .ok (.ireturn, 1))
noncomputable def cL_law_1083 (n : Nat) (L : Nat) (xs : Nat → Int32) (K23 : Nat → Nat → Nat → Int32 → rvS → Option (Int32 × rvS)) (S : rvS) (a1 : Nat) (a2 : Nat) (a3 : Nat) (x4 : Int32) : Option (Int32 × rvS) :=
  (rv_vl S a1).bind fun _ =>
  (rv_vl S a2).bind fun _ =>
  (rv_vl S a3).bind fun _ =>
  (rv_ix L (x4 + (1 : Int32))).bind fun j4_ =>
  (rv_ix L (x4 + (2 : Int32))).bind fun j7_ =>
  (rv_ck S 10 a1).bind fun u10_ =>
  rv_bp (fnX12_steal n S a1 (xs j4_) (xs j7_)) fun x13_ S14_ =>
  (rv_ix L (x4 + (1 : Int32))).bind fun j20_ =>
  (rv_ix L (x4 + (2 : Int32))).bind fun j23_ =>
  (rv_ck S14_ 11 a2).bind fun u26_ =>
  rv_bp (fnX13_steal n S14_ a2 (xs j20_) (xs j23_)) fun x29_ S30_ =>
  if x13_ = x29_ then (
    rv_lt (x4 + (6)) fun x37_ =>
    K23 a1 a2 a3 x37_ S30_)
  else (
    some ((0 : Int32), S30_))
set_option maxRecDepth 20000 in
set_option maxHeartbeats 4000000 in
theorem eL_law_1083 (n : Nat) (L : Nat) (xs : Nat → Int32) (K23 : Nat → Nat → Nat → Int32 → rvS → Option (Int32 × rvS)) (hK23 : ∀ (a1 : Nat) (a2 : Nat) (a3 : Nat) (x4 : Int32) (S : rvS) (r : Int32) (S' : rvS), K23 a1 a2 a3 x4 S = some (r, S') → rv_Ev (mL_law L xs) 200 23 [(0, .ref 25), (1, .ref a1), (2, .ref a2), (3, .ref a3), (4, .int x4)] [] S (some (.int r)) S') (S : rvS) (a1 : Nat) (a2 : Nat) (a3 : Nat) (x4 : Int32) (r : Int32) (S' : rvS) (h : cL_law_1083 n L xs K23 S a1 a2 a3 x4 = some (r, S')) : rv_Ev (mL_law L xs) 200 1083 [(0, .ref 25), (1, .ref a1), (2, .ref a2), (3, .ref a3), (4, .int x4)] [] S (some (.int r)) S' := by
  unfold cL_law_1083 at h
  obtain ⟨_, g1_, h⟩ := rv_b_e h
  obtain ⟨_, g2_, h⟩ := rv_b_e h
  obtain ⟨_, g3_, h⟩ := rv_b_e h
  refine re_aloadn (pc := 1083) 1 (by decide +kernel : decode cL_law 1083 = .ok (.aload_n 1, 1)) rfl ?_
  refine re_aloadn (pc := 1084) 0 (by decide +kernel : decode cL_law 1084 = .ok (.aload_n 0, 1)) rfl ?_
  refine re_iload (pc := 1085) 4 (by decide +kernel : decode cL_law 1085 = .ok (.iload 4, 2)) rfl ?_
  refine re_iconst (pc := 1087) (1 : Int32) (by decide +kernel : decode cL_law 1087 = .ok (.iconst 1, 1)) (by decide) ?_
  refine re_iadd (pc := 1088) (by decide +kernel : decode cL_law 1088 = .ok (.iadd, 1)) ?_
  obtain ⟨j4_, g5_, h⟩ := rv_b_e h
  have z6_ := rv_ix_e g5_
  refine re_sld (pc := 1089) (L := L) (xs := xs) rfl z6_.1 (by decide +kernel : decode cL_law 1089 = .ok (.iaload, 1)) ?_
  refine re_nI (congrArg xs z6_.2.symm) ?_
  refine re_aloadn (pc := 1090) 0 (by decide +kernel : decode cL_law 1090 = .ok (.aload_n 0, 1)) rfl ?_
  refine re_iload (pc := 1091) 4 (by decide +kernel : decode cL_law 1091 = .ok (.iload 4, 2)) rfl ?_
  refine re_iconst (pc := 1093) (2 : Int32) (by decide +kernel : decode cL_law 1093 = .ok (.iconst 2, 1)) (by decide) ?_
  refine re_iadd (pc := 1094) (by decide +kernel : decode cL_law 1094 = .ok (.iadd, 1)) ?_
  obtain ⟨j7_, g8_, h⟩ := rv_b_e h
  have z9_ := rv_ix_e g8_
  refine re_sld (pc := 1095) (L := L) (xs := xs) rfl z9_.1 (by decide +kernel : decode cL_law 1095 = .ok (.iaload, 1)) ?_
  refine re_nI (congrArg xs z9_.2.symm) ?_
  obtain ⟨u10_, g11_, h⟩ := rv_b_e h
  obtain ⟨x13_, S14_, g15_, h⟩ := rv_bp_e h
  have m12_ := metX12_steal n S a1 (xs j4_) (xs j7_) _ _ g15_
  have z16_ : rv_same S S14_ := m12_.sh rfl
  have o17_ : a1 < 64 + S14_.1.length := by rw [z16_.1]; exact (rv_vl_e g1_)
  have o18_ : a2 < 64 + S14_.1.length := by rw [z16_.1]; exact (rv_vl_e g2_)
  have o19_ : a3 < 64 + S14_.1.length := by rw [z16_.1]; exact (rv_vl_e g3_)
  refine re_cV (pc := 1096) [.int (xs j4_), .int (xs j7_)] m12_ (rv_okl.k z16_) (rv_up.sh z16_) (by decide) (rv_ck_e g11_) ⟨by decide, rfl⟩ (Nat.le_of_ble_eq_true rfl) lVL_119 rfl (by decide +kernel : decode cL_law 1096 = .ok (.invokevirtual 119, 3)) ?_
  refine re_aloadn (pc := 1099) 2 (by decide +kernel : decode cL_law 1099 = .ok (.aload_n 2, 1)) rfl ?_
  refine re_aloadn (pc := 1100) 0 (by decide +kernel : decode cL_law 1100 = .ok (.aload_n 0, 1)) rfl ?_
  refine re_iload (pc := 1101) 4 (by decide +kernel : decode cL_law 1101 = .ok (.iload 4, 2)) rfl ?_
  refine re_iconst (pc := 1103) (1 : Int32) (by decide +kernel : decode cL_law 1103 = .ok (.iconst 1, 1)) (by decide) ?_
  refine re_iadd (pc := 1104) (by decide +kernel : decode cL_law 1104 = .ok (.iadd, 1)) ?_
  obtain ⟨j20_, g21_, h⟩ := rv_b_e h
  have z22_ := rv_ix_e g21_
  refine re_sld (pc := 1105) (L := L) (xs := xs) rfl z22_.1 (by decide +kernel : decode cL_law 1105 = .ok (.iaload, 1)) ?_
  refine re_nI (congrArg xs z22_.2.symm) ?_
  refine re_aloadn (pc := 1106) 0 (by decide +kernel : decode cL_law 1106 = .ok (.aload_n 0, 1)) rfl ?_
  refine re_iload (pc := 1107) 4 (by decide +kernel : decode cL_law 1107 = .ok (.iload 4, 2)) rfl ?_
  refine re_iconst (pc := 1109) (2 : Int32) (by decide +kernel : decode cL_law 1109 = .ok (.iconst 2, 1)) (by decide) ?_
  refine re_iadd (pc := 1110) (by decide +kernel : decode cL_law 1110 = .ok (.iadd, 1)) ?_
  obtain ⟨j23_, g24_, h⟩ := rv_b_e h
  have z25_ := rv_ix_e g24_
  refine re_sld (pc := 1111) (L := L) (xs := xs) rfl z25_.1 (by decide +kernel : decode cL_law 1111 = .ok (.iaload, 1)) ?_
  refine re_nI (congrArg xs z25_.2.symm) ?_
  obtain ⟨u26_, g27_, h⟩ := rv_b_e h
  obtain ⟨x29_, S30_, g31_, h⟩ := rv_bp_e h
  have m28_ := metX13_steal n S14_ a2 (xs j20_) (xs j23_) _ _ g31_
  have z32_ : rv_same S14_ S30_ := m28_.sh rfl
  have o33_ : a1 < 64 + S30_.1.length := by rw [z32_.1]; exact o17_
  have o34_ : a2 < 64 + S30_.1.length := by rw [z32_.1]; exact o18_
  have o35_ : a3 < 64 + S30_.1.length := by rw [z32_.1]; exact o19_
  refine re_cV (pc := 1112) [.int (xs j20_), .int (xs j23_)] m28_ (rv_okl.k z32_) (rv_up.sh z32_) (by decide) (rv_ck_e g27_) ⟨by decide, rfl⟩ (Nat.le_of_ble_eq_true rfl) lVL_122 rfl (by decide +kernel : decode cL_law 1112 = .ok (.invokevirtual 122, 3)) ?_
  rcases rv_if_e h with ⟨g36_, h⟩ | ⟨g36_, h⟩
  · refine re_icmp_eq_t (pc := 1115) 1836 (by decide +kernel : decode cL_law 1115 = .ok (.if_icmp .eq 721, 3)) (by decide) g36_ ?_
    obtain ⟨x37_, g38_, h⟩ := rv_lt_e h
    refine re_iinc (pc := 1836) 4 x37_ (lv1 := [(4, .int x37_), (0, .ref 25), (1, .ref a1), (2, .ref a2), (3, .ref a3)]) (by decide +kernel : decode cL_law 1836 = .ok (.iinc 4 6, 3)) rfl g38_ (Nat.le_of_ble_eq_true rfl) rfl ?_
    refine re_goto (pc := 1839) 23 (by decide +kernel : decode cL_law 1839 = .ok (.goto (-1816), 3)) (by decide) ?_
    refine re_sub [1, 2, 3, 4, 0] (lv1 := [(0, .ref 25), (1, .ref a1), (2, .ref a2), (3, .ref a3), (4, .int x37_)]) rfl ?_
    exact hK23 a1 a2 a3 x37_ S30_ _ _ h
  · refine re_icmp_eq_f (pc := 1115) 1836 (by decide +kernel : decode cL_law 1115 = .ok (.if_icmp .eq 721, 3)) (by decide) g36_ ?_
    refine re_iconst (pc := 1118) (0 : Int32) (by decide +kernel : decode cL_law 1118 = .ok (.iconst 0, 1)) (by decide) ?_
    cases h
    exact re_iret (fun ty hty => by cases hty; rfl) (by decide +kernel : decode cL_law 1119 = .ok (.ireturn, 1))
noncomputable def cL_law_1120 (n : Nat) (L : Nat) (xs : Nat → Int32) (K23 : Nat → Nat → Nat → Int32 → rvS → Option (Int32 × rvS)) (S : rvS) (a1 : Nat) (a2 : Nat) (a3 : Nat) (x4 : Int32) : Option (Int32 × rvS) :=
  (rv_vl S a1).bind fun _ =>
  (rv_vl S a2).bind fun _ =>
  (rv_vl S a3).bind fun _ =>
  (rv_ix L (x4 + (1 : Int32))).bind fun j4_ =>
  (rv_ix L (x4 + (2 : Int32))).bind fun j7_ =>
  (rv_ck S 10 a1).bind fun u10_ =>
  rv_bp (fnX12_wed n S a1 (xs j4_) (xs j7_)) fun x13_ S14_ =>
  (rv_ix L (x4 + (1 : Int32))).bind fun j20_ =>
  (rv_ix L (x4 + (2 : Int32))).bind fun j23_ =>
  (rv_ck S14_ 11 a2).bind fun u26_ =>
  rv_bp (fnX13_wed n S14_ a2 (xs j20_) (xs j23_)) fun x29_ S30_ =>
  if x13_ = x29_ then (
    rv_lt (x4 + (6)) fun x37_ =>
    K23 a1 a2 a3 x37_ S30_)
  else (
    some ((0 : Int32), S30_))
set_option maxRecDepth 20000 in
set_option maxHeartbeats 4000000 in
theorem eL_law_1120 (n : Nat) (L : Nat) (xs : Nat → Int32) (K23 : Nat → Nat → Nat → Int32 → rvS → Option (Int32 × rvS)) (hK23 : ∀ (a1 : Nat) (a2 : Nat) (a3 : Nat) (x4 : Int32) (S : rvS) (r : Int32) (S' : rvS), K23 a1 a2 a3 x4 S = some (r, S') → rv_Ev (mL_law L xs) 200 23 [(0, .ref 25), (1, .ref a1), (2, .ref a2), (3, .ref a3), (4, .int x4)] [] S (some (.int r)) S') (S : rvS) (a1 : Nat) (a2 : Nat) (a3 : Nat) (x4 : Int32) (r : Int32) (S' : rvS) (h : cL_law_1120 n L xs K23 S a1 a2 a3 x4 = some (r, S')) : rv_Ev (mL_law L xs) 200 1120 [(0, .ref 25), (1, .ref a1), (2, .ref a2), (3, .ref a3), (4, .int x4)] [] S (some (.int r)) S' := by
  unfold cL_law_1120 at h
  obtain ⟨_, g1_, h⟩ := rv_b_e h
  obtain ⟨_, g2_, h⟩ := rv_b_e h
  obtain ⟨_, g3_, h⟩ := rv_b_e h
  refine re_aloadn (pc := 1120) 1 (by decide +kernel : decode cL_law 1120 = .ok (.aload_n 1, 1)) rfl ?_
  refine re_aloadn (pc := 1121) 0 (by decide +kernel : decode cL_law 1121 = .ok (.aload_n 0, 1)) rfl ?_
  refine re_iload (pc := 1122) 4 (by decide +kernel : decode cL_law 1122 = .ok (.iload 4, 2)) rfl ?_
  refine re_iconst (pc := 1124) (1 : Int32) (by decide +kernel : decode cL_law 1124 = .ok (.iconst 1, 1)) (by decide) ?_
  refine re_iadd (pc := 1125) (by decide +kernel : decode cL_law 1125 = .ok (.iadd, 1)) ?_
  obtain ⟨j4_, g5_, h⟩ := rv_b_e h
  have z6_ := rv_ix_e g5_
  refine re_sld (pc := 1126) (L := L) (xs := xs) rfl z6_.1 (by decide +kernel : decode cL_law 1126 = .ok (.iaload, 1)) ?_
  refine re_nI (congrArg xs z6_.2.symm) ?_
  refine re_aloadn (pc := 1127) 0 (by decide +kernel : decode cL_law 1127 = .ok (.aload_n 0, 1)) rfl ?_
  refine re_iload (pc := 1128) 4 (by decide +kernel : decode cL_law 1128 = .ok (.iload 4, 2)) rfl ?_
  refine re_iconst (pc := 1130) (2 : Int32) (by decide +kernel : decode cL_law 1130 = .ok (.iconst 2, 1)) (by decide) ?_
  refine re_iadd (pc := 1131) (by decide +kernel : decode cL_law 1131 = .ok (.iadd, 1)) ?_
  obtain ⟨j7_, g8_, h⟩ := rv_b_e h
  have z9_ := rv_ix_e g8_
  refine re_sld (pc := 1132) (L := L) (xs := xs) rfl z9_.1 (by decide +kernel : decode cL_law 1132 = .ok (.iaload, 1)) ?_
  refine re_nI (congrArg xs z9_.2.symm) ?_
  obtain ⟨u10_, g11_, h⟩ := rv_b_e h
  obtain ⟨x13_, S14_, g15_, h⟩ := rv_bp_e h
  have m12_ := metX12_wed n S a1 (xs j4_) (xs j7_) _ _ g15_
  have z16_ : rv_same S S14_ := m12_.sh rfl
  have o17_ : a1 < 64 + S14_.1.length := by rw [z16_.1]; exact (rv_vl_e g1_)
  have o18_ : a2 < 64 + S14_.1.length := by rw [z16_.1]; exact (rv_vl_e g2_)
  have o19_ : a3 < 64 + S14_.1.length := by rw [z16_.1]; exact (rv_vl_e g3_)
  refine re_cV (pc := 1133) [.int (xs j4_), .int (xs j7_)] m12_ (rv_okl.k z16_) (rv_up.sh z16_) (by decide) (rv_ck_e g11_) ⟨by decide, rfl⟩ (Nat.le_of_ble_eq_true rfl) lVL_123 rfl (by decide +kernel : decode cL_law 1133 = .ok (.invokevirtual 123, 3)) ?_
  refine re_aloadn (pc := 1136) 2 (by decide +kernel : decode cL_law 1136 = .ok (.aload_n 2, 1)) rfl ?_
  refine re_aloadn (pc := 1137) 0 (by decide +kernel : decode cL_law 1137 = .ok (.aload_n 0, 1)) rfl ?_
  refine re_iload (pc := 1138) 4 (by decide +kernel : decode cL_law 1138 = .ok (.iload 4, 2)) rfl ?_
  refine re_iconst (pc := 1140) (1 : Int32) (by decide +kernel : decode cL_law 1140 = .ok (.iconst 1, 1)) (by decide) ?_
  refine re_iadd (pc := 1141) (by decide +kernel : decode cL_law 1141 = .ok (.iadd, 1)) ?_
  obtain ⟨j20_, g21_, h⟩ := rv_b_e h
  have z22_ := rv_ix_e g21_
  refine re_sld (pc := 1142) (L := L) (xs := xs) rfl z22_.1 (by decide +kernel : decode cL_law 1142 = .ok (.iaload, 1)) ?_
  refine re_nI (congrArg xs z22_.2.symm) ?_
  refine re_aloadn (pc := 1143) 0 (by decide +kernel : decode cL_law 1143 = .ok (.aload_n 0, 1)) rfl ?_
  refine re_iload (pc := 1144) 4 (by decide +kernel : decode cL_law 1144 = .ok (.iload 4, 2)) rfl ?_
  refine re_iconst (pc := 1146) (2 : Int32) (by decide +kernel : decode cL_law 1146 = .ok (.iconst 2, 1)) (by decide) ?_
  refine re_iadd (pc := 1147) (by decide +kernel : decode cL_law 1147 = .ok (.iadd, 1)) ?_
  obtain ⟨j23_, g24_, h⟩ := rv_b_e h
  have z25_ := rv_ix_e g24_
  refine re_sld (pc := 1148) (L := L) (xs := xs) rfl z25_.1 (by decide +kernel : decode cL_law 1148 = .ok (.iaload, 1)) ?_
  refine re_nI (congrArg xs z25_.2.symm) ?_
  obtain ⟨u26_, g27_, h⟩ := rv_b_e h
  obtain ⟨x29_, S30_, g31_, h⟩ := rv_bp_e h
  have m28_ := metX13_wed n S14_ a2 (xs j20_) (xs j23_) _ _ g31_
  have z32_ : rv_same S14_ S30_ := m28_.sh rfl
  have o33_ : a1 < 64 + S30_.1.length := by rw [z32_.1]; exact o17_
  have o34_ : a2 < 64 + S30_.1.length := by rw [z32_.1]; exact o18_
  have o35_ : a3 < 64 + S30_.1.length := by rw [z32_.1]; exact o19_
  refine re_cV (pc := 1149) [.int (xs j20_), .int (xs j23_)] m28_ (rv_okl.k z32_) (rv_up.sh z32_) (by decide) (rv_ck_e g27_) ⟨by decide, rfl⟩ (Nat.le_of_ble_eq_true rfl) lVL_126 rfl (by decide +kernel : decode cL_law 1149 = .ok (.invokevirtual 126, 3)) ?_
  rcases rv_if_e h with ⟨g36_, h⟩ | ⟨g36_, h⟩
  · refine re_icmp_eq_t (pc := 1152) 1836 (by decide +kernel : decode cL_law 1152 = .ok (.if_icmp .eq 684, 3)) (by decide) g36_ ?_
    obtain ⟨x37_, g38_, h⟩ := rv_lt_e h
    refine re_iinc (pc := 1836) 4 x37_ (lv1 := [(4, .int x37_), (0, .ref 25), (1, .ref a1), (2, .ref a2), (3, .ref a3)]) (by decide +kernel : decode cL_law 1836 = .ok (.iinc 4 6, 3)) rfl g38_ (Nat.le_of_ble_eq_true rfl) rfl ?_
    refine re_goto (pc := 1839) 23 (by decide +kernel : decode cL_law 1839 = .ok (.goto (-1816), 3)) (by decide) ?_
    refine re_sub [1, 2, 3, 4, 0] (lv1 := [(0, .ref 25), (1, .ref a1), (2, .ref a2), (3, .ref a3), (4, .int x37_)]) rfl ?_
    exact hK23 a1 a2 a3 x37_ S30_ _ _ h
  · refine re_icmp_eq_f (pc := 1152) 1836 (by decide +kernel : decode cL_law 1152 = .ok (.if_icmp .eq 684, 3)) (by decide) g36_ ?_
    refine re_iconst (pc := 1155) (0 : Int32) (by decide +kernel : decode cL_law 1155 = .ok (.iconst 0, 1)) (by decide) ?_
    cases h
    exact re_iret (fun ty hty => by cases hty; rfl) (by decide +kernel : decode cL_law 1156 = .ok (.ireturn, 1))
noncomputable def cL_law_1157 (n : Nat) (L : Nat) (xs : Nat → Int32) (K23 : Nat → Nat → Nat → Int32 → rvS → Option (Int32 × rvS)) (S : rvS) (a1 : Nat) (a2 : Nat) (a3 : Nat) (x4 : Int32) : Option (Int32 × rvS) :=
  (rv_vl S a1).bind fun _ =>
  (rv_vl S a2).bind fun _ =>
  (rv_vl S a3).bind fun _ =>
  (rv_ix L (x4 + (1 : Int32))).bind fun j4_ =>
  (rv_ck S 10 a1).bind fun u7_ =>
  rv_bp (fnX12_born n S a1 (xs j4_)) fun x10_ S11_ =>
  (rv_ix L (x4 + (1 : Int32))).bind fun j17_ =>
  (rv_ck S11_ 11 a2).bind fun u20_ =>
  rv_bp (fnX13_born n S11_ a2 (xs j17_)) fun x23_ S24_ =>
  if x10_ = x23_ then (
    rv_lt (x4 + (6)) fun x31_ =>
    K23 a1 a2 a3 x31_ S24_)
  else (
    some ((0 : Int32), S24_))
set_option maxRecDepth 20000 in
set_option maxHeartbeats 4000000 in
theorem eL_law_1157 (n : Nat) (L : Nat) (xs : Nat → Int32) (K23 : Nat → Nat → Nat → Int32 → rvS → Option (Int32 × rvS)) (hK23 : ∀ (a1 : Nat) (a2 : Nat) (a3 : Nat) (x4 : Int32) (S : rvS) (r : Int32) (S' : rvS), K23 a1 a2 a3 x4 S = some (r, S') → rv_Ev (mL_law L xs) 200 23 [(0, .ref 25), (1, .ref a1), (2, .ref a2), (3, .ref a3), (4, .int x4)] [] S (some (.int r)) S') (S : rvS) (a1 : Nat) (a2 : Nat) (a3 : Nat) (x4 : Int32) (r : Int32) (S' : rvS) (h : cL_law_1157 n L xs K23 S a1 a2 a3 x4 = some (r, S')) : rv_Ev (mL_law L xs) 200 1157 [(0, .ref 25), (1, .ref a1), (2, .ref a2), (3, .ref a3), (4, .int x4)] [] S (some (.int r)) S' := by
  unfold cL_law_1157 at h
  obtain ⟨_, g1_, h⟩ := rv_b_e h
  obtain ⟨_, g2_, h⟩ := rv_b_e h
  obtain ⟨_, g3_, h⟩ := rv_b_e h
  refine re_aloadn (pc := 1157) 1 (by decide +kernel : decode cL_law 1157 = .ok (.aload_n 1, 1)) rfl ?_
  refine re_aloadn (pc := 1158) 0 (by decide +kernel : decode cL_law 1158 = .ok (.aload_n 0, 1)) rfl ?_
  refine re_iload (pc := 1159) 4 (by decide +kernel : decode cL_law 1159 = .ok (.iload 4, 2)) rfl ?_
  refine re_iconst (pc := 1161) (1 : Int32) (by decide +kernel : decode cL_law 1161 = .ok (.iconst 1, 1)) (by decide) ?_
  refine re_iadd (pc := 1162) (by decide +kernel : decode cL_law 1162 = .ok (.iadd, 1)) ?_
  obtain ⟨j4_, g5_, h⟩ := rv_b_e h
  have z6_ := rv_ix_e g5_
  refine re_sld (pc := 1163) (L := L) (xs := xs) rfl z6_.1 (by decide +kernel : decode cL_law 1163 = .ok (.iaload, 1)) ?_
  refine re_nI (congrArg xs z6_.2.symm) ?_
  obtain ⟨u7_, g8_, h⟩ := rv_b_e h
  obtain ⟨x10_, S11_, g12_, h⟩ := rv_bp_e h
  have m9_ := metX12_born n S a1 (xs j4_) _ _ g12_
  have z13_ : rv_same S S11_ := m9_.sh rfl
  have o14_ : a1 < 64 + S11_.1.length := by rw [z13_.1]; exact (rv_vl_e g1_)
  have o15_ : a2 < 64 + S11_.1.length := by rw [z13_.1]; exact (rv_vl_e g2_)
  have o16_ : a3 < 64 + S11_.1.length := by rw [z13_.1]; exact (rv_vl_e g3_)
  refine re_cV (pc := 1164) [.int (xs j4_)] m9_ (rv_okl.k z13_) (rv_up.sh z13_) (by decide) (rv_ck_e g8_) ⟨by decide, rfl⟩ (Nat.le_of_ble_eq_true rfl) lVL_127 rfl (by decide +kernel : decode cL_law 1164 = .ok (.invokevirtual 127, 3)) ?_
  refine re_aloadn (pc := 1167) 2 (by decide +kernel : decode cL_law 1167 = .ok (.aload_n 2, 1)) rfl ?_
  refine re_aloadn (pc := 1168) 0 (by decide +kernel : decode cL_law 1168 = .ok (.aload_n 0, 1)) rfl ?_
  refine re_iload (pc := 1169) 4 (by decide +kernel : decode cL_law 1169 = .ok (.iload 4, 2)) rfl ?_
  refine re_iconst (pc := 1171) (1 : Int32) (by decide +kernel : decode cL_law 1171 = .ok (.iconst 1, 1)) (by decide) ?_
  refine re_iadd (pc := 1172) (by decide +kernel : decode cL_law 1172 = .ok (.iadd, 1)) ?_
  obtain ⟨j17_, g18_, h⟩ := rv_b_e h
  have z19_ := rv_ix_e g18_
  refine re_sld (pc := 1173) (L := L) (xs := xs) rfl z19_.1 (by decide +kernel : decode cL_law 1173 = .ok (.iaload, 1)) ?_
  refine re_nI (congrArg xs z19_.2.symm) ?_
  obtain ⟨u20_, g21_, h⟩ := rv_b_e h
  obtain ⟨x23_, S24_, g25_, h⟩ := rv_bp_e h
  have m22_ := metX13_born n S11_ a2 (xs j17_) _ _ g25_
  have z26_ : rv_same S11_ S24_ := m22_.sh rfl
  have o27_ : a1 < 64 + S24_.1.length := by rw [z26_.1]; exact o14_
  have o28_ : a2 < 64 + S24_.1.length := by rw [z26_.1]; exact o15_
  have o29_ : a3 < 64 + S24_.1.length := by rw [z26_.1]; exact o16_
  refine re_cV (pc := 1174) [.int (xs j17_)] m22_ (rv_okl.k z26_) (rv_up.sh z26_) (by decide) (rv_ck_e g21_) ⟨by decide, rfl⟩ (Nat.le_of_ble_eq_true rfl) lVL_130 rfl (by decide +kernel : decode cL_law 1174 = .ok (.invokevirtual 130, 3)) ?_
  rcases rv_if_e h with ⟨g30_, h⟩ | ⟨g30_, h⟩
  · refine re_icmp_eq_t (pc := 1177) 1836 (by decide +kernel : decode cL_law 1177 = .ok (.if_icmp .eq 659, 3)) (by decide) g30_ ?_
    obtain ⟨x31_, g32_, h⟩ := rv_lt_e h
    refine re_iinc (pc := 1836) 4 x31_ (lv1 := [(4, .int x31_), (0, .ref 25), (1, .ref a1), (2, .ref a2), (3, .ref a3)]) (by decide +kernel : decode cL_law 1836 = .ok (.iinc 4 6, 3)) rfl g32_ (Nat.le_of_ble_eq_true rfl) rfl ?_
    refine re_goto (pc := 1839) 23 (by decide +kernel : decode cL_law 1839 = .ok (.goto (-1816), 3)) (by decide) ?_
    refine re_sub [1, 2, 3, 4, 0] (lv1 := [(0, .ref 25), (1, .ref a1), (2, .ref a2), (3, .ref a3), (4, .int x31_)]) rfl ?_
    exact hK23 a1 a2 a3 x31_ S24_ _ _ h
  · refine re_icmp_eq_f (pc := 1177) 1836 (by decide +kernel : decode cL_law 1177 = .ok (.if_icmp .eq 659, 3)) (by decide) g30_ ?_
    refine re_iconst (pc := 1180) (0 : Int32) (by decide +kernel : decode cL_law 1180 = .ok (.iconst 0, 1)) (by decide) ?_
    cases h
    exact re_iret (fun ty hty => by cases hty; rfl) (by decide +kernel : decode cL_law 1181 = .ok (.ireturn, 1))
noncomputable def cL_law_1182 (n : Nat) (L : Nat) (xs : Nat → Int32) (K23 : Nat → Nat → Nat → Int32 → rvS → Option (Int32 × rvS)) (S : rvS) (a1 : Nat) (a2 : Nat) (a3 : Nat) (x4 : Int32) : Option (Int32 × rvS) :=
  (rv_vl S a1).bind fun _ =>
  (rv_vl S a2).bind fun _ =>
  (rv_vl S a3).bind fun _ =>
  (rv_ix L (x4 + (1 : Int32))).bind fun j4_ =>
  (rv_ix L (x4 + (2 : Int32))).bind fun j7_ =>
  (rv_ck S 10 a1).bind fun u10_ =>
  rv_bp (fnX12_dies n S a1 (xs j4_) (xs j7_)) fun x13_ S14_ =>
  (rv_ix L (x4 + (1 : Int32))).bind fun j20_ =>
  (rv_ix L (x4 + (2 : Int32))).bind fun j23_ =>
  (rv_ck S14_ 11 a2).bind fun u26_ =>
  rv_bp (fnX13_dies n S14_ a2 (xs j20_) (xs j23_)) fun x29_ S30_ =>
  if x13_ = x29_ then (
    rv_lt (x4 + (6)) fun x37_ =>
    K23 a1 a2 a3 x37_ S30_)
  else (
    some ((0 : Int32), S30_))
set_option maxRecDepth 20000 in
set_option maxHeartbeats 4000000 in
theorem eL_law_1182 (n : Nat) (L : Nat) (xs : Nat → Int32) (K23 : Nat → Nat → Nat → Int32 → rvS → Option (Int32 × rvS)) (hK23 : ∀ (a1 : Nat) (a2 : Nat) (a3 : Nat) (x4 : Int32) (S : rvS) (r : Int32) (S' : rvS), K23 a1 a2 a3 x4 S = some (r, S') → rv_Ev (mL_law L xs) 200 23 [(0, .ref 25), (1, .ref a1), (2, .ref a2), (3, .ref a3), (4, .int x4)] [] S (some (.int r)) S') (S : rvS) (a1 : Nat) (a2 : Nat) (a3 : Nat) (x4 : Int32) (r : Int32) (S' : rvS) (h : cL_law_1182 n L xs K23 S a1 a2 a3 x4 = some (r, S')) : rv_Ev (mL_law L xs) 200 1182 [(0, .ref 25), (1, .ref a1), (2, .ref a2), (3, .ref a3), (4, .int x4)] [] S (some (.int r)) S' := by
  unfold cL_law_1182 at h
  obtain ⟨_, g1_, h⟩ := rv_b_e h
  obtain ⟨_, g2_, h⟩ := rv_b_e h
  obtain ⟨_, g3_, h⟩ := rv_b_e h
  refine re_aloadn (pc := 1182) 1 (by decide +kernel : decode cL_law 1182 = .ok (.aload_n 1, 1)) rfl ?_
  refine re_aloadn (pc := 1183) 0 (by decide +kernel : decode cL_law 1183 = .ok (.aload_n 0, 1)) rfl ?_
  refine re_iload (pc := 1184) 4 (by decide +kernel : decode cL_law 1184 = .ok (.iload 4, 2)) rfl ?_
  refine re_iconst (pc := 1186) (1 : Int32) (by decide +kernel : decode cL_law 1186 = .ok (.iconst 1, 1)) (by decide) ?_
  refine re_iadd (pc := 1187) (by decide +kernel : decode cL_law 1187 = .ok (.iadd, 1)) ?_
  obtain ⟨j4_, g5_, h⟩ := rv_b_e h
  have z6_ := rv_ix_e g5_
  refine re_sld (pc := 1188) (L := L) (xs := xs) rfl z6_.1 (by decide +kernel : decode cL_law 1188 = .ok (.iaload, 1)) ?_
  refine re_nI (congrArg xs z6_.2.symm) ?_
  refine re_aloadn (pc := 1189) 0 (by decide +kernel : decode cL_law 1189 = .ok (.aload_n 0, 1)) rfl ?_
  refine re_iload (pc := 1190) 4 (by decide +kernel : decode cL_law 1190 = .ok (.iload 4, 2)) rfl ?_
  refine re_iconst (pc := 1192) (2 : Int32) (by decide +kernel : decode cL_law 1192 = .ok (.iconst 2, 1)) (by decide) ?_
  refine re_iadd (pc := 1193) (by decide +kernel : decode cL_law 1193 = .ok (.iadd, 1)) ?_
  obtain ⟨j7_, g8_, h⟩ := rv_b_e h
  have z9_ := rv_ix_e g8_
  refine re_sld (pc := 1194) (L := L) (xs := xs) rfl z9_.1 (by decide +kernel : decode cL_law 1194 = .ok (.iaload, 1)) ?_
  refine re_nI (congrArg xs z9_.2.symm) ?_
  obtain ⟨u10_, g11_, h⟩ := rv_b_e h
  obtain ⟨x13_, S14_, g15_, h⟩ := rv_bp_e h
  have m12_ := metX12_dies n S a1 (xs j4_) (xs j7_) _ _ g15_
  have z16_ : rv_same S S14_ := m12_.sh rfl
  have o17_ : a1 < 64 + S14_.1.length := by rw [z16_.1]; exact (rv_vl_e g1_)
  have o18_ : a2 < 64 + S14_.1.length := by rw [z16_.1]; exact (rv_vl_e g2_)
  have o19_ : a3 < 64 + S14_.1.length := by rw [z16_.1]; exact (rv_vl_e g3_)
  refine re_cV (pc := 1195) [.int (xs j4_), .int (xs j7_)] m12_ (rv_okl.k z16_) (rv_up.sh z16_) (by decide) (rv_ck_e g11_) ⟨by decide, rfl⟩ (Nat.le_of_ble_eq_true rfl) lVL_131 rfl (by decide +kernel : decode cL_law 1195 = .ok (.invokevirtual 131, 3)) ?_
  refine re_aloadn (pc := 1198) 2 (by decide +kernel : decode cL_law 1198 = .ok (.aload_n 2, 1)) rfl ?_
  refine re_aloadn (pc := 1199) 0 (by decide +kernel : decode cL_law 1199 = .ok (.aload_n 0, 1)) rfl ?_
  refine re_iload (pc := 1200) 4 (by decide +kernel : decode cL_law 1200 = .ok (.iload 4, 2)) rfl ?_
  refine re_iconst (pc := 1202) (1 : Int32) (by decide +kernel : decode cL_law 1202 = .ok (.iconst 1, 1)) (by decide) ?_
  refine re_iadd (pc := 1203) (by decide +kernel : decode cL_law 1203 = .ok (.iadd, 1)) ?_
  obtain ⟨j20_, g21_, h⟩ := rv_b_e h
  have z22_ := rv_ix_e g21_
  refine re_sld (pc := 1204) (L := L) (xs := xs) rfl z22_.1 (by decide +kernel : decode cL_law 1204 = .ok (.iaload, 1)) ?_
  refine re_nI (congrArg xs z22_.2.symm) ?_
  refine re_aloadn (pc := 1205) 0 (by decide +kernel : decode cL_law 1205 = .ok (.aload_n 0, 1)) rfl ?_
  refine re_iload (pc := 1206) 4 (by decide +kernel : decode cL_law 1206 = .ok (.iload 4, 2)) rfl ?_
  refine re_iconst (pc := 1208) (2 : Int32) (by decide +kernel : decode cL_law 1208 = .ok (.iconst 2, 1)) (by decide) ?_
  refine re_iadd (pc := 1209) (by decide +kernel : decode cL_law 1209 = .ok (.iadd, 1)) ?_
  obtain ⟨j23_, g24_, h⟩ := rv_b_e h
  have z25_ := rv_ix_e g24_
  refine re_sld (pc := 1210) (L := L) (xs := xs) rfl z25_.1 (by decide +kernel : decode cL_law 1210 = .ok (.iaload, 1)) ?_
  refine re_nI (congrArg xs z25_.2.symm) ?_
  obtain ⟨u26_, g27_, h⟩ := rv_b_e h
  obtain ⟨x29_, S30_, g31_, h⟩ := rv_bp_e h
  have m28_ := metX13_dies n S14_ a2 (xs j20_) (xs j23_) _ _ g31_
  have z32_ : rv_same S14_ S30_ := m28_.sh rfl
  have o33_ : a1 < 64 + S30_.1.length := by rw [z32_.1]; exact o17_
  have o34_ : a2 < 64 + S30_.1.length := by rw [z32_.1]; exact o18_
  have o35_ : a3 < 64 + S30_.1.length := by rw [z32_.1]; exact o19_
  refine re_cV (pc := 1211) [.int (xs j20_), .int (xs j23_)] m28_ (rv_okl.k z32_) (rv_up.sh z32_) (by decide) (rv_ck_e g27_) ⟨by decide, rfl⟩ (Nat.le_of_ble_eq_true rfl) lVL_134 rfl (by decide +kernel : decode cL_law 1211 = .ok (.invokevirtual 134, 3)) ?_
  rcases rv_if_e h with ⟨g36_, h⟩ | ⟨g36_, h⟩
  · refine re_icmp_eq_t (pc := 1214) 1836 (by decide +kernel : decode cL_law 1214 = .ok (.if_icmp .eq 622, 3)) (by decide) g36_ ?_
    obtain ⟨x37_, g38_, h⟩ := rv_lt_e h
    refine re_iinc (pc := 1836) 4 x37_ (lv1 := [(4, .int x37_), (0, .ref 25), (1, .ref a1), (2, .ref a2), (3, .ref a3)]) (by decide +kernel : decode cL_law 1836 = .ok (.iinc 4 6, 3)) rfl g38_ (Nat.le_of_ble_eq_true rfl) rfl ?_
    refine re_goto (pc := 1839) 23 (by decide +kernel : decode cL_law 1839 = .ok (.goto (-1816), 3)) (by decide) ?_
    refine re_sub [1, 2, 3, 4, 0] (lv1 := [(0, .ref 25), (1, .ref a1), (2, .ref a2), (3, .ref a3), (4, .int x37_)]) rfl ?_
    exact hK23 a1 a2 a3 x37_ S30_ _ _ h
  · refine re_icmp_eq_f (pc := 1214) 1836 (by decide +kernel : decode cL_law 1214 = .ok (.if_icmp .eq 622, 3)) (by decide) g36_ ?_
    refine re_iconst (pc := 1217) (0 : Int32) (by decide +kernel : decode cL_law 1217 = .ok (.iconst 0, 1)) (by decide) ?_
    cases h
    exact re_iret (fun ty hty => by cases hty; rfl) (by decide +kernel : decode cL_law 1218 = .ok (.ireturn, 1))
noncomputable def cL_law_1219 (n : Nat) (L : Nat) (xs : Nat → Int32) (K23 : Nat → Nat → Nat → Int32 → rvS → Option (Int32 × rvS)) (S : rvS) (a1 : Nat) (a2 : Nat) (a3 : Nat) (x4 : Int32) : Option (Int32 × rvS) :=
  (rv_vl S a1).bind fun _ =>
  (rv_vl S a2).bind fun _ =>
  (rv_vl S a3).bind fun _ =>
  (rv_ix L (x4 + (1 : Int32))).bind fun j4_ =>
  (rv_ck S 10 a1).bind fun u7_ =>
  (fnX12_stuck n S a1 (xs j4_)).bind fun x10_ =>
  (rv_ix L (x4 + (1 : Int32))).bind fun j12_ =>
  (rv_ck S 11 a2).bind fun u15_ =>
  rv_bp (fnX13_stuck n S a2 (xs j12_)) fun x18_ S19_ =>
  if x10_ = x18_ then (
    rv_lt (x4 + (6)) fun x26_ =>
    K23 a1 a2 a3 x26_ S19_)
  else (
    some ((0 : Int32), S19_))
set_option maxRecDepth 20000 in
set_option maxHeartbeats 4000000 in
theorem eL_law_1219 (n : Nat) (L : Nat) (xs : Nat → Int32) (K23 : Nat → Nat → Nat → Int32 → rvS → Option (Int32 × rvS)) (hK23 : ∀ (a1 : Nat) (a2 : Nat) (a3 : Nat) (x4 : Int32) (S : rvS) (r : Int32) (S' : rvS), K23 a1 a2 a3 x4 S = some (r, S') → rv_Ev (mL_law L xs) 200 23 [(0, .ref 25), (1, .ref a1), (2, .ref a2), (3, .ref a3), (4, .int x4)] [] S (some (.int r)) S') (S : rvS) (a1 : Nat) (a2 : Nat) (a3 : Nat) (x4 : Int32) (r : Int32) (S' : rvS) (h : cL_law_1219 n L xs K23 S a1 a2 a3 x4 = some (r, S')) : rv_Ev (mL_law L xs) 200 1219 [(0, .ref 25), (1, .ref a1), (2, .ref a2), (3, .ref a3), (4, .int x4)] [] S (some (.int r)) S' := by
  unfold cL_law_1219 at h
  obtain ⟨_, g1_, h⟩ := rv_b_e h
  obtain ⟨_, g2_, h⟩ := rv_b_e h
  obtain ⟨_, g3_, h⟩ := rv_b_e h
  refine re_aloadn (pc := 1219) 1 (by decide +kernel : decode cL_law 1219 = .ok (.aload_n 1, 1)) rfl ?_
  refine re_aloadn (pc := 1220) 0 (by decide +kernel : decode cL_law 1220 = .ok (.aload_n 0, 1)) rfl ?_
  refine re_iload (pc := 1221) 4 (by decide +kernel : decode cL_law 1221 = .ok (.iload 4, 2)) rfl ?_
  refine re_iconst (pc := 1223) (1 : Int32) (by decide +kernel : decode cL_law 1223 = .ok (.iconst 1, 1)) (by decide) ?_
  refine re_iadd (pc := 1224) (by decide +kernel : decode cL_law 1224 = .ok (.iadd, 1)) ?_
  obtain ⟨j4_, g5_, h⟩ := rv_b_e h
  have z6_ := rv_ix_e g5_
  refine re_sld (pc := 1225) (L := L) (xs := xs) rfl z6_.1 (by decide +kernel : decode cL_law 1225 = .ok (.iaload, 1)) ?_
  refine re_nI (congrArg xs z6_.2.symm) ?_
  obtain ⟨u7_, g8_, h⟩ := rv_b_e h
  obtain ⟨x10_, g11_, h⟩ := rv_b_e h
  have m9_ := metX12_stuck n S a1 (xs j4_) _ g11_
  refine re_cV (pc := 1226) [.int (xs j4_)] m9_ (rv_okl.k ⟨rfl, rfl⟩) (rv_up.rf _ _) (by decide) (rv_ck_e g8_) ⟨by decide, rfl⟩ (Nat.le_of_ble_eq_true rfl) lVL_135 rfl (by decide +kernel : decode cL_law 1226 = .ok (.invokevirtual 135, 3)) ?_
  refine re_aloadn (pc := 1229) 2 (by decide +kernel : decode cL_law 1229 = .ok (.aload_n 2, 1)) rfl ?_
  refine re_aloadn (pc := 1230) 0 (by decide +kernel : decode cL_law 1230 = .ok (.aload_n 0, 1)) rfl ?_
  refine re_iload (pc := 1231) 4 (by decide +kernel : decode cL_law 1231 = .ok (.iload 4, 2)) rfl ?_
  refine re_iconst (pc := 1233) (1 : Int32) (by decide +kernel : decode cL_law 1233 = .ok (.iconst 1, 1)) (by decide) ?_
  refine re_iadd (pc := 1234) (by decide +kernel : decode cL_law 1234 = .ok (.iadd, 1)) ?_
  obtain ⟨j12_, g13_, h⟩ := rv_b_e h
  have z14_ := rv_ix_e g13_
  refine re_sld (pc := 1235) (L := L) (xs := xs) rfl z14_.1 (by decide +kernel : decode cL_law 1235 = .ok (.iaload, 1)) ?_
  refine re_nI (congrArg xs z14_.2.symm) ?_
  obtain ⟨u15_, g16_, h⟩ := rv_b_e h
  obtain ⟨x18_, S19_, g20_, h⟩ := rv_bp_e h
  have m17_ := metX13_stuck n S a2 (xs j12_) _ _ g20_
  have z21_ : rv_same S S19_ := m17_.sh rfl
  have o22_ : a1 < 64 + S19_.1.length := by rw [z21_.1]; exact (rv_vl_e g1_)
  have o23_ : a2 < 64 + S19_.1.length := by rw [z21_.1]; exact (rv_vl_e g2_)
  have o24_ : a3 < 64 + S19_.1.length := by rw [z21_.1]; exact (rv_vl_e g3_)
  refine re_cV (pc := 1236) [.int (xs j12_)] m17_ (rv_okl.k z21_) (rv_up.sh z21_) (by decide) (rv_ck_e g16_) ⟨by decide, rfl⟩ (Nat.le_of_ble_eq_true rfl) lVL_138 rfl (by decide +kernel : decode cL_law 1236 = .ok (.invokevirtual 138, 3)) ?_
  rcases rv_if_e h with ⟨g25_, h⟩ | ⟨g25_, h⟩
  · refine re_icmp_eq_t (pc := 1239) 1836 (by decide +kernel : decode cL_law 1239 = .ok (.if_icmp .eq 597, 3)) (by decide) g25_ ?_
    obtain ⟨x26_, g27_, h⟩ := rv_lt_e h
    refine re_iinc (pc := 1836) 4 x26_ (lv1 := [(4, .int x26_), (0, .ref 25), (1, .ref a1), (2, .ref a2), (3, .ref a3)]) (by decide +kernel : decode cL_law 1836 = .ok (.iinc 4 6, 3)) rfl g27_ (Nat.le_of_ble_eq_true rfl) rfl ?_
    refine re_goto (pc := 1839) 23 (by decide +kernel : decode cL_law 1839 = .ok (.goto (-1816), 3)) (by decide) ?_
    refine re_sub [1, 2, 3, 4, 0] (lv1 := [(0, .ref 25), (1, .ref a1), (2, .ref a2), (3, .ref a3), (4, .int x26_)]) rfl ?_
    exact hK23 a1 a2 a3 x26_ S19_ _ _ h
  · refine re_icmp_eq_f (pc := 1239) 1836 (by decide +kernel : decode cL_law 1239 = .ok (.if_icmp .eq 597, 3)) (by decide) g25_ ?_
    refine re_iconst (pc := 1242) (0 : Int32) (by decide +kernel : decode cL_law 1242 = .ok (.iconst 0, 1)) (by decide) ?_
    cases h
    exact re_iret (fun ty hty => by cases hty; rfl) (by decide +kernel : decode cL_law 1243 = .ok (.ireturn, 1))
noncomputable def cL_law_1244 (n : Nat) (L : Nat) (xs : Nat → Int32) (K23 : Nat → Nat → Nat → Int32 → rvS → Option (Int32 × rvS)) (S : rvS) (a1 : Nat) (a2 : Nat) (a3 : Nat) (x4 : Int32) : Option (Int32 × rvS) :=
  (rv_vl S a1).bind fun _ =>
  (rv_vl S a2).bind fun _ =>
  (rv_vl S a3).bind fun _ =>
  (rv_ix L (x4 + (1 : Int32))).bind fun j4_ =>
  (rv_ck S 10 a1).bind fun u7_ =>
  (fnX12_frees n S a1 (xs j4_)).bind fun x10_ =>
  (rv_ix L (x4 + (1 : Int32))).bind fun j12_ =>
  (rv_ck S 11 a2).bind fun u15_ =>
  rv_bp (fnX13_frees n S a2 (xs j12_)) fun x18_ S19_ =>
  if x10_ = x18_ then (
    rv_lt (x4 + (6)) fun x26_ =>
    K23 a1 a2 a3 x26_ S19_)
  else (
    some ((0 : Int32), S19_))
set_option maxRecDepth 20000 in
set_option maxHeartbeats 4000000 in
theorem eL_law_1244 (n : Nat) (L : Nat) (xs : Nat → Int32) (K23 : Nat → Nat → Nat → Int32 → rvS → Option (Int32 × rvS)) (hK23 : ∀ (a1 : Nat) (a2 : Nat) (a3 : Nat) (x4 : Int32) (S : rvS) (r : Int32) (S' : rvS), K23 a1 a2 a3 x4 S = some (r, S') → rv_Ev (mL_law L xs) 200 23 [(0, .ref 25), (1, .ref a1), (2, .ref a2), (3, .ref a3), (4, .int x4)] [] S (some (.int r)) S') (S : rvS) (a1 : Nat) (a2 : Nat) (a3 : Nat) (x4 : Int32) (r : Int32) (S' : rvS) (h : cL_law_1244 n L xs K23 S a1 a2 a3 x4 = some (r, S')) : rv_Ev (mL_law L xs) 200 1244 [(0, .ref 25), (1, .ref a1), (2, .ref a2), (3, .ref a3), (4, .int x4)] [] S (some (.int r)) S' := by
  unfold cL_law_1244 at h
  obtain ⟨_, g1_, h⟩ := rv_b_e h
  obtain ⟨_, g2_, h⟩ := rv_b_e h
  obtain ⟨_, g3_, h⟩ := rv_b_e h
  refine re_aloadn (pc := 1244) 1 (by decide +kernel : decode cL_law 1244 = .ok (.aload_n 1, 1)) rfl ?_
  refine re_aloadn (pc := 1245) 0 (by decide +kernel : decode cL_law 1245 = .ok (.aload_n 0, 1)) rfl ?_
  refine re_iload (pc := 1246) 4 (by decide +kernel : decode cL_law 1246 = .ok (.iload 4, 2)) rfl ?_
  refine re_iconst (pc := 1248) (1 : Int32) (by decide +kernel : decode cL_law 1248 = .ok (.iconst 1, 1)) (by decide) ?_
  refine re_iadd (pc := 1249) (by decide +kernel : decode cL_law 1249 = .ok (.iadd, 1)) ?_
  obtain ⟨j4_, g5_, h⟩ := rv_b_e h
  have z6_ := rv_ix_e g5_
  refine re_sld (pc := 1250) (L := L) (xs := xs) rfl z6_.1 (by decide +kernel : decode cL_law 1250 = .ok (.iaload, 1)) ?_
  refine re_nI (congrArg xs z6_.2.symm) ?_
  obtain ⟨u7_, g8_, h⟩ := rv_b_e h
  obtain ⟨x10_, g11_, h⟩ := rv_b_e h
  have m9_ := metX12_frees n S a1 (xs j4_) _ g11_
  refine re_cV (pc := 1251) [.int (xs j4_)] m9_ (rv_okl.k ⟨rfl, rfl⟩) (rv_up.rf _ _) (by decide) (rv_ck_e g8_) ⟨by decide, rfl⟩ (Nat.le_of_ble_eq_true rfl) lVL_139 rfl (by decide +kernel : decode cL_law 1251 = .ok (.invokevirtual 139, 3)) ?_
  refine re_aloadn (pc := 1254) 2 (by decide +kernel : decode cL_law 1254 = .ok (.aload_n 2, 1)) rfl ?_
  refine re_aloadn (pc := 1255) 0 (by decide +kernel : decode cL_law 1255 = .ok (.aload_n 0, 1)) rfl ?_
  refine re_iload (pc := 1256) 4 (by decide +kernel : decode cL_law 1256 = .ok (.iload 4, 2)) rfl ?_
  refine re_iconst (pc := 1258) (1 : Int32) (by decide +kernel : decode cL_law 1258 = .ok (.iconst 1, 1)) (by decide) ?_
  refine re_iadd (pc := 1259) (by decide +kernel : decode cL_law 1259 = .ok (.iadd, 1)) ?_
  obtain ⟨j12_, g13_, h⟩ := rv_b_e h
  have z14_ := rv_ix_e g13_
  refine re_sld (pc := 1260) (L := L) (xs := xs) rfl z14_.1 (by decide +kernel : decode cL_law 1260 = .ok (.iaload, 1)) ?_
  refine re_nI (congrArg xs z14_.2.symm) ?_
  obtain ⟨u15_, g16_, h⟩ := rv_b_e h
  obtain ⟨x18_, S19_, g20_, h⟩ := rv_bp_e h
  have m17_ := metX13_frees n S a2 (xs j12_) _ _ g20_
  have z21_ : rv_same S S19_ := m17_.sh rfl
  have o22_ : a1 < 64 + S19_.1.length := by rw [z21_.1]; exact (rv_vl_e g1_)
  have o23_ : a2 < 64 + S19_.1.length := by rw [z21_.1]; exact (rv_vl_e g2_)
  have o24_ : a3 < 64 + S19_.1.length := by rw [z21_.1]; exact (rv_vl_e g3_)
  refine re_cV (pc := 1261) [.int (xs j12_)] m17_ (rv_okl.k z21_) (rv_up.sh z21_) (by decide) (rv_ck_e g16_) ⟨by decide, rfl⟩ (Nat.le_of_ble_eq_true rfl) lVL_142 rfl (by decide +kernel : decode cL_law 1261 = .ok (.invokevirtual 142, 3)) ?_
  rcases rv_if_e h with ⟨g25_, h⟩ | ⟨g25_, h⟩
  · refine re_icmp_eq_t (pc := 1264) 1836 (by decide +kernel : decode cL_law 1264 = .ok (.if_icmp .eq 572, 3)) (by decide) g25_ ?_
    obtain ⟨x26_, g27_, h⟩ := rv_lt_e h
    refine re_iinc (pc := 1836) 4 x26_ (lv1 := [(4, .int x26_), (0, .ref 25), (1, .ref a1), (2, .ref a2), (3, .ref a3)]) (by decide +kernel : decode cL_law 1836 = .ok (.iinc 4 6, 3)) rfl g27_ (Nat.le_of_ble_eq_true rfl) rfl ?_
    refine re_goto (pc := 1839) 23 (by decide +kernel : decode cL_law 1839 = .ok (.goto (-1816), 3)) (by decide) ?_
    refine re_sub [1, 2, 3, 4, 0] (lv1 := [(0, .ref 25), (1, .ref a1), (2, .ref a2), (3, .ref a3), (4, .int x26_)]) rfl ?_
    exact hK23 a1 a2 a3 x26_ S19_ _ _ h
  · refine re_icmp_eq_f (pc := 1264) 1836 (by decide +kernel : decode cL_law 1264 = .ok (.if_icmp .eq 572, 3)) (by decide) g25_ ?_
    refine re_iconst (pc := 1267) (0 : Int32) (by decide +kernel : decode cL_law 1267 = .ok (.iconst 0, 1)) (by decide) ?_
    cases h
    exact re_iret (fun ty hty => by cases hty; rfl) (by decide +kernel : decode cL_law 1268 = .ok (.ireturn, 1))
noncomputable def cL_law_1269 (n : Nat) (L : Nat) (xs : Nat → Int32) (K23 : Nat → Nat → Nat → Int32 → rvS → Option (Int32 × rvS)) (S : rvS) (a1 : Nat) (a2 : Nat) (a3 : Nat) (x4 : Int32) : Option (Int32 × rvS) :=
  (rv_vl S a1).bind fun _ =>
  (rv_vl S a2).bind fun _ =>
  (rv_vl S a3).bind fun _ =>
  (rv_ck S 10 a1).bind fun u4_ =>
  (fnX12_cradle n S a1).bind fun x7_ =>
  (rv_ck S 11 a2).bind fun u9_ =>
  rv_bp (fnX13_cradle n S a2) fun x12_ S13_ =>
  if x7_ = x12_ then (
    rv_lt (x4 + (6)) fun x20_ =>
    K23 a1 a2 a3 x20_ S13_)
  else (
    some ((0 : Int32), S13_))
set_option maxRecDepth 20000 in
set_option maxHeartbeats 4000000 in
theorem eL_law_1269 (n : Nat) (L : Nat) (xs : Nat → Int32) (K23 : Nat → Nat → Nat → Int32 → rvS → Option (Int32 × rvS)) (hK23 : ∀ (a1 : Nat) (a2 : Nat) (a3 : Nat) (x4 : Int32) (S : rvS) (r : Int32) (S' : rvS), K23 a1 a2 a3 x4 S = some (r, S') → rv_Ev (mL_law L xs) 200 23 [(0, .ref 25), (1, .ref a1), (2, .ref a2), (3, .ref a3), (4, .int x4)] [] S (some (.int r)) S') (S : rvS) (a1 : Nat) (a2 : Nat) (a3 : Nat) (x4 : Int32) (r : Int32) (S' : rvS) (h : cL_law_1269 n L xs K23 S a1 a2 a3 x4 = some (r, S')) : rv_Ev (mL_law L xs) 200 1269 [(0, .ref 25), (1, .ref a1), (2, .ref a2), (3, .ref a3), (4, .int x4)] [] S (some (.int r)) S' := by
  unfold cL_law_1269 at h
  obtain ⟨_, g1_, h⟩ := rv_b_e h
  obtain ⟨_, g2_, h⟩ := rv_b_e h
  obtain ⟨_, g3_, h⟩ := rv_b_e h
  refine re_aloadn (pc := 1269) 1 (by decide +kernel : decode cL_law 1269 = .ok (.aload_n 1, 1)) rfl ?_
  obtain ⟨u4_, g5_, h⟩ := rv_b_e h
  obtain ⟨x7_, g8_, h⟩ := rv_b_e h
  have m6_ := metX12_cradle n S a1 _ g8_
  refine re_cV (pc := 1270) [] m6_ (rv_okl.k ⟨rfl, rfl⟩) (rv_up.rf _ _) (by decide) (rv_ck_e g5_) ⟨by decide, rfl⟩ (Nat.le_of_ble_eq_true rfl) lVL_143 rfl (by decide +kernel : decode cL_law 1270 = .ok (.invokevirtual 143, 3)) ?_
  refine re_aloadn (pc := 1273) 2 (by decide +kernel : decode cL_law 1273 = .ok (.aload_n 2, 1)) rfl ?_
  obtain ⟨u9_, g10_, h⟩ := rv_b_e h
  obtain ⟨x12_, S13_, g14_, h⟩ := rv_bp_e h
  have m11_ := metX13_cradle n S a2 _ _ g14_
  have z15_ : rv_same S S13_ := m11_.sh rfl
  have o16_ : a1 < 64 + S13_.1.length := by rw [z15_.1]; exact (rv_vl_e g1_)
  have o17_ : a2 < 64 + S13_.1.length := by rw [z15_.1]; exact (rv_vl_e g2_)
  have o18_ : a3 < 64 + S13_.1.length := by rw [z15_.1]; exact (rv_vl_e g3_)
  refine re_cV (pc := 1274) [] m11_ (rv_okl.k z15_) (rv_up.sh z15_) (by decide) (rv_ck_e g10_) ⟨by decide, rfl⟩ (Nat.le_of_ble_eq_true rfl) lVL_146 rfl (by decide +kernel : decode cL_law 1274 = .ok (.invokevirtual 146, 3)) ?_
  rcases rv_if_e h with ⟨g19_, h⟩ | ⟨g19_, h⟩
  · refine re_icmp_eq_t (pc := 1277) 1836 (by decide +kernel : decode cL_law 1277 = .ok (.if_icmp .eq 559, 3)) (by decide) g19_ ?_
    obtain ⟨x20_, g21_, h⟩ := rv_lt_e h
    refine re_iinc (pc := 1836) 4 x20_ (lv1 := [(4, .int x20_), (0, .ref 25), (1, .ref a1), (2, .ref a2), (3, .ref a3)]) (by decide +kernel : decode cL_law 1836 = .ok (.iinc 4 6, 3)) rfl g21_ (Nat.le_of_ble_eq_true rfl) rfl ?_
    refine re_goto (pc := 1839) 23 (by decide +kernel : decode cL_law 1839 = .ok (.goto (-1816), 3)) (by decide) ?_
    refine re_sub [1, 2, 3, 4, 0] (lv1 := [(0, .ref 25), (1, .ref a1), (2, .ref a2), (3, .ref a3), (4, .int x20_)]) rfl ?_
    exact hK23 a1 a2 a3 x20_ S13_ _ _ h
  · refine re_icmp_eq_f (pc := 1277) 1836 (by decide +kernel : decode cL_law 1277 = .ok (.if_icmp .eq 559, 3)) (by decide) g19_ ?_
    refine re_iconst (pc := 1280) (0 : Int32) (by decide +kernel : decode cL_law 1280 = .ok (.iconst 0, 1)) (by decide) ?_
    cases h
    exact re_iret (fun ty hty => by cases hty; rfl) (by decide +kernel : decode cL_law 1281 = .ok (.ireturn, 1))
noncomputable def cL_law_1282 (n : Nat) (L : Nat) (xs : Nat → Int32) (K23 : Nat → Nat → Nat → Int32 → rvS → Option (Int32 × rvS)) (S : rvS) (a1 : Nat) (a2 : Nat) (a3 : Nat) (x4 : Int32) : Option (Int32 × rvS) :=
  (rv_vl S a1).bind fun _ =>
  (rv_vl S a2).bind fun _ =>
  (rv_vl S a3).bind fun _ =>
  (rv_ck S 10 a1).bind fun u4_ =>
  rv_bp (fnX12_opens n S a1) fun x7_ S8_ =>
  (rv_ck S8_ 11 a2).bind fun u14_ =>
  rv_bp (fnX13_opens n S8_ a2) fun x17_ S18_ =>
  if x7_ = x17_ then (
    rv_lt (x4 + (6)) fun x25_ =>
    K23 a1 a2 a3 x25_ S18_)
  else (
    some ((0 : Int32), S18_))
set_option maxRecDepth 20000 in
set_option maxHeartbeats 4000000 in
theorem eL_law_1282 (n : Nat) (L : Nat) (xs : Nat → Int32) (K23 : Nat → Nat → Nat → Int32 → rvS → Option (Int32 × rvS)) (hK23 : ∀ (a1 : Nat) (a2 : Nat) (a3 : Nat) (x4 : Int32) (S : rvS) (r : Int32) (S' : rvS), K23 a1 a2 a3 x4 S = some (r, S') → rv_Ev (mL_law L xs) 200 23 [(0, .ref 25), (1, .ref a1), (2, .ref a2), (3, .ref a3), (4, .int x4)] [] S (some (.int r)) S') (S : rvS) (a1 : Nat) (a2 : Nat) (a3 : Nat) (x4 : Int32) (r : Int32) (S' : rvS) (h : cL_law_1282 n L xs K23 S a1 a2 a3 x4 = some (r, S')) : rv_Ev (mL_law L xs) 200 1282 [(0, .ref 25), (1, .ref a1), (2, .ref a2), (3, .ref a3), (4, .int x4)] [] S (some (.int r)) S' := by
  unfold cL_law_1282 at h
  obtain ⟨_, g1_, h⟩ := rv_b_e h
  obtain ⟨_, g2_, h⟩ := rv_b_e h
  obtain ⟨_, g3_, h⟩ := rv_b_e h
  refine re_aloadn (pc := 1282) 1 (by decide +kernel : decode cL_law 1282 = .ok (.aload_n 1, 1)) rfl ?_
  obtain ⟨u4_, g5_, h⟩ := rv_b_e h
  obtain ⟨x7_, S8_, g9_, h⟩ := rv_bp_e h
  have m6_ := metX12_opens n S a1 _ _ g9_
  have z10_ : rv_same S S8_ := m6_.sh rfl
  have o11_ : a1 < 64 + S8_.1.length := by rw [z10_.1]; exact (rv_vl_e g1_)
  have o12_ : a2 < 64 + S8_.1.length := by rw [z10_.1]; exact (rv_vl_e g2_)
  have o13_ : a3 < 64 + S8_.1.length := by rw [z10_.1]; exact (rv_vl_e g3_)
  refine re_cV (pc := 1283) [] m6_ (rv_okl.k z10_) (rv_up.sh z10_) (by decide) (rv_ck_e g5_) ⟨by decide, rfl⟩ (Nat.le_of_ble_eq_true rfl) lVL_147 rfl (by decide +kernel : decode cL_law 1283 = .ok (.invokevirtual 147, 3)) ?_
  refine re_aloadn (pc := 1286) 2 (by decide +kernel : decode cL_law 1286 = .ok (.aload_n 2, 1)) rfl ?_
  obtain ⟨u14_, g15_, h⟩ := rv_b_e h
  obtain ⟨x17_, S18_, g19_, h⟩ := rv_bp_e h
  have m16_ := metX13_opens n S8_ a2 _ _ g19_
  have z20_ : rv_same S8_ S18_ := m16_.sh rfl
  have o21_ : a1 < 64 + S18_.1.length := by rw [z20_.1]; exact o11_
  have o22_ : a2 < 64 + S18_.1.length := by rw [z20_.1]; exact o12_
  have o23_ : a3 < 64 + S18_.1.length := by rw [z20_.1]; exact o13_
  refine re_cV (pc := 1287) [] m16_ (rv_okl.k z20_) (rv_up.sh z20_) (by decide) (rv_ck_e g15_) ⟨by decide, rfl⟩ (Nat.le_of_ble_eq_true rfl) lVL_150 rfl (by decide +kernel : decode cL_law 1287 = .ok (.invokevirtual 150, 3)) ?_
  rcases rv_if_e h with ⟨g24_, h⟩ | ⟨g24_, h⟩
  · refine re_icmp_eq_t (pc := 1290) 1836 (by decide +kernel : decode cL_law 1290 = .ok (.if_icmp .eq 546, 3)) (by decide) g24_ ?_
    obtain ⟨x25_, g26_, h⟩ := rv_lt_e h
    refine re_iinc (pc := 1836) 4 x25_ (lv1 := [(4, .int x25_), (0, .ref 25), (1, .ref a1), (2, .ref a2), (3, .ref a3)]) (by decide +kernel : decode cL_law 1836 = .ok (.iinc 4 6, 3)) rfl g26_ (Nat.le_of_ble_eq_true rfl) rfl ?_
    refine re_goto (pc := 1839) 23 (by decide +kernel : decode cL_law 1839 = .ok (.goto (-1816), 3)) (by decide) ?_
    refine re_sub [1, 2, 3, 4, 0] (lv1 := [(0, .ref 25), (1, .ref a1), (2, .ref a2), (3, .ref a3), (4, .int x25_)]) rfl ?_
    exact hK23 a1 a2 a3 x25_ S18_ _ _ h
  · refine re_icmp_eq_f (pc := 1290) 1836 (by decide +kernel : decode cL_law 1290 = .ok (.if_icmp .eq 546, 3)) (by decide) g24_ ?_
    refine re_iconst (pc := 1293) (0 : Int32) (by decide +kernel : decode cL_law 1293 = .ok (.iconst 0, 1)) (by decide) ?_
    cases h
    exact re_iret (fun ty hty => by cases hty; rfl) (by decide +kernel : decode cL_law 1294 = .ok (.ireturn, 1))
noncomputable def cL_law_1295 (n : Nat) (L : Nat) (xs : Nat → Int32) (K23 : Nat → Nat → Nat → Int32 → rvS → Option (Int32 × rvS)) (S : rvS) (a1 : Nat) (a2 : Nat) (a3 : Nat) (x4 : Int32) : Option (Int32 × rvS) :=
  (rv_vl S a1).bind fun _ =>
  (rv_vl S a2).bind fun _ =>
  (rv_vl S a3).bind fun _ =>
  (rv_ix L (x4 + (1 : Int32))).bind fun j4_ =>
  (rv_ix L (x4 + (2 : Int32))).bind fun j7_ =>
  (rv_ck S 10 a1).bind fun u10_ =>
  rv_bp (fnX12_hands n S a1 (xs j4_) (xs j7_)) fun x13_ S14_ =>
  (rv_ix L (x4 + (1 : Int32))).bind fun j20_ =>
  (rv_ix L (x4 + (2 : Int32))).bind fun j23_ =>
  (rv_ck S14_ 11 a2).bind fun u26_ =>
  rv_bp (fnX13_hands n S14_ a2 (xs j20_) (xs j23_)) fun x29_ S30_ =>
  if x13_ = x29_ then (
    rv_lt (x4 + (6)) fun x37_ =>
    K23 a1 a2 a3 x37_ S30_)
  else (
    some ((0 : Int32), S30_))
set_option maxRecDepth 20000 in
set_option maxHeartbeats 4000000 in
theorem eL_law_1295 (n : Nat) (L : Nat) (xs : Nat → Int32) (K23 : Nat → Nat → Nat → Int32 → rvS → Option (Int32 × rvS)) (hK23 : ∀ (a1 : Nat) (a2 : Nat) (a3 : Nat) (x4 : Int32) (S : rvS) (r : Int32) (S' : rvS), K23 a1 a2 a3 x4 S = some (r, S') → rv_Ev (mL_law L xs) 200 23 [(0, .ref 25), (1, .ref a1), (2, .ref a2), (3, .ref a3), (4, .int x4)] [] S (some (.int r)) S') (S : rvS) (a1 : Nat) (a2 : Nat) (a3 : Nat) (x4 : Int32) (r : Int32) (S' : rvS) (h : cL_law_1295 n L xs K23 S a1 a2 a3 x4 = some (r, S')) : rv_Ev (mL_law L xs) 200 1295 [(0, .ref 25), (1, .ref a1), (2, .ref a2), (3, .ref a3), (4, .int x4)] [] S (some (.int r)) S' := by
  unfold cL_law_1295 at h
  obtain ⟨_, g1_, h⟩ := rv_b_e h
  obtain ⟨_, g2_, h⟩ := rv_b_e h
  obtain ⟨_, g3_, h⟩ := rv_b_e h
  refine re_aloadn (pc := 1295) 1 (by decide +kernel : decode cL_law 1295 = .ok (.aload_n 1, 1)) rfl ?_
  refine re_aloadn (pc := 1296) 0 (by decide +kernel : decode cL_law 1296 = .ok (.aload_n 0, 1)) rfl ?_
  refine re_iload (pc := 1297) 4 (by decide +kernel : decode cL_law 1297 = .ok (.iload 4, 2)) rfl ?_
  refine re_iconst (pc := 1299) (1 : Int32) (by decide +kernel : decode cL_law 1299 = .ok (.iconst 1, 1)) (by decide) ?_
  refine re_iadd (pc := 1300) (by decide +kernel : decode cL_law 1300 = .ok (.iadd, 1)) ?_
  obtain ⟨j4_, g5_, h⟩ := rv_b_e h
  have z6_ := rv_ix_e g5_
  refine re_sld (pc := 1301) (L := L) (xs := xs) rfl z6_.1 (by decide +kernel : decode cL_law 1301 = .ok (.iaload, 1)) ?_
  refine re_nI (congrArg xs z6_.2.symm) ?_
  refine re_aloadn (pc := 1302) 0 (by decide +kernel : decode cL_law 1302 = .ok (.aload_n 0, 1)) rfl ?_
  refine re_iload (pc := 1303) 4 (by decide +kernel : decode cL_law 1303 = .ok (.iload 4, 2)) rfl ?_
  refine re_iconst (pc := 1305) (2 : Int32) (by decide +kernel : decode cL_law 1305 = .ok (.iconst 2, 1)) (by decide) ?_
  refine re_iadd (pc := 1306) (by decide +kernel : decode cL_law 1306 = .ok (.iadd, 1)) ?_
  obtain ⟨j7_, g8_, h⟩ := rv_b_e h
  have z9_ := rv_ix_e g8_
  refine re_sld (pc := 1307) (L := L) (xs := xs) rfl z9_.1 (by decide +kernel : decode cL_law 1307 = .ok (.iaload, 1)) ?_
  refine re_nI (congrArg xs z9_.2.symm) ?_
  obtain ⟨u10_, g11_, h⟩ := rv_b_e h
  obtain ⟨x13_, S14_, g15_, h⟩ := rv_bp_e h
  have m12_ := metX12_hands n S a1 (xs j4_) (xs j7_) _ _ g15_
  have z16_ : rv_same S S14_ := m12_.sh rfl
  have o17_ : a1 < 64 + S14_.1.length := by rw [z16_.1]; exact (rv_vl_e g1_)
  have o18_ : a2 < 64 + S14_.1.length := by rw [z16_.1]; exact (rv_vl_e g2_)
  have o19_ : a3 < 64 + S14_.1.length := by rw [z16_.1]; exact (rv_vl_e g3_)
  refine re_cV (pc := 1308) [.int (xs j4_), .int (xs j7_)] m12_ (rv_okl.k z16_) (rv_up.sh z16_) (by decide) (rv_ck_e g11_) ⟨by decide, rfl⟩ (Nat.le_of_ble_eq_true rfl) lVL_151 rfl (by decide +kernel : decode cL_law 1308 = .ok (.invokevirtual 151, 3)) ?_
  refine re_aloadn (pc := 1311) 2 (by decide +kernel : decode cL_law 1311 = .ok (.aload_n 2, 1)) rfl ?_
  refine re_aloadn (pc := 1312) 0 (by decide +kernel : decode cL_law 1312 = .ok (.aload_n 0, 1)) rfl ?_
  refine re_iload (pc := 1313) 4 (by decide +kernel : decode cL_law 1313 = .ok (.iload 4, 2)) rfl ?_
  refine re_iconst (pc := 1315) (1 : Int32) (by decide +kernel : decode cL_law 1315 = .ok (.iconst 1, 1)) (by decide) ?_
  refine re_iadd (pc := 1316) (by decide +kernel : decode cL_law 1316 = .ok (.iadd, 1)) ?_
  obtain ⟨j20_, g21_, h⟩ := rv_b_e h
  have z22_ := rv_ix_e g21_
  refine re_sld (pc := 1317) (L := L) (xs := xs) rfl z22_.1 (by decide +kernel : decode cL_law 1317 = .ok (.iaload, 1)) ?_
  refine re_nI (congrArg xs z22_.2.symm) ?_
  refine re_aloadn (pc := 1318) 0 (by decide +kernel : decode cL_law 1318 = .ok (.aload_n 0, 1)) rfl ?_
  refine re_iload (pc := 1319) 4 (by decide +kernel : decode cL_law 1319 = .ok (.iload 4, 2)) rfl ?_
  refine re_iconst (pc := 1321) (2 : Int32) (by decide +kernel : decode cL_law 1321 = .ok (.iconst 2, 1)) (by decide) ?_
  refine re_iadd (pc := 1322) (by decide +kernel : decode cL_law 1322 = .ok (.iadd, 1)) ?_
  obtain ⟨j23_, g24_, h⟩ := rv_b_e h
  have z25_ := rv_ix_e g24_
  refine re_sld (pc := 1323) (L := L) (xs := xs) rfl z25_.1 (by decide +kernel : decode cL_law 1323 = .ok (.iaload, 1)) ?_
  refine re_nI (congrArg xs z25_.2.symm) ?_
  obtain ⟨u26_, g27_, h⟩ := rv_b_e h
  obtain ⟨x29_, S30_, g31_, h⟩ := rv_bp_e h
  have m28_ := metX13_hands n S14_ a2 (xs j20_) (xs j23_) _ _ g31_
  have z32_ : rv_same S14_ S30_ := m28_.sh rfl
  have o33_ : a1 < 64 + S30_.1.length := by rw [z32_.1]; exact o17_
  have o34_ : a2 < 64 + S30_.1.length := by rw [z32_.1]; exact o18_
  have o35_ : a3 < 64 + S30_.1.length := by rw [z32_.1]; exact o19_
  refine re_cV (pc := 1324) [.int (xs j20_), .int (xs j23_)] m28_ (rv_okl.k z32_) (rv_up.sh z32_) (by decide) (rv_ck_e g27_) ⟨by decide, rfl⟩ (Nat.le_of_ble_eq_true rfl) lVL_154 rfl (by decide +kernel : decode cL_law 1324 = .ok (.invokevirtual 154, 3)) ?_
  rcases rv_if_e h with ⟨g36_, h⟩ | ⟨g36_, h⟩
  · refine re_icmp_eq_t (pc := 1327) 1836 (by decide +kernel : decode cL_law 1327 = .ok (.if_icmp .eq 509, 3)) (by decide) g36_ ?_
    obtain ⟨x37_, g38_, h⟩ := rv_lt_e h
    refine re_iinc (pc := 1836) 4 x37_ (lv1 := [(4, .int x37_), (0, .ref 25), (1, .ref a1), (2, .ref a2), (3, .ref a3)]) (by decide +kernel : decode cL_law 1836 = .ok (.iinc 4 6, 3)) rfl g38_ (Nat.le_of_ble_eq_true rfl) rfl ?_
    refine re_goto (pc := 1839) 23 (by decide +kernel : decode cL_law 1839 = .ok (.goto (-1816), 3)) (by decide) ?_
    refine re_sub [1, 2, 3, 4, 0] (lv1 := [(0, .ref 25), (1, .ref a1), (2, .ref a2), (3, .ref a3), (4, .int x37_)]) rfl ?_
    exact hK23 a1 a2 a3 x37_ S30_ _ _ h
  · refine re_icmp_eq_f (pc := 1327) 1836 (by decide +kernel : decode cL_law 1327 = .ok (.if_icmp .eq 509, 3)) (by decide) g36_ ?_
    refine re_iconst (pc := 1330) (0 : Int32) (by decide +kernel : decode cL_law 1330 = .ok (.iconst 0, 1)) (by decide) ?_
    cases h
    exact re_iret (fun ty hty => by cases hty; rfl) (by decide +kernel : decode cL_law 1331 = .ok (.ireturn, 1))
noncomputable def cL_law_1332 (n : Nat) (L : Nat) (xs : Nat → Int32) (K23 : Nat → Nat → Nat → Int32 → rvS → Option (Int32 × rvS)) (S : rvS) (a1 : Nat) (a2 : Nat) (a3 : Nat) (x4 : Int32) : Option (Int32 × rvS) :=
  (rv_vl S a1).bind fun _ =>
  (rv_vl S a2).bind fun _ =>
  (rv_vl S a3).bind fun _ =>
  (rv_ix L (x4 + (1 : Int32))).bind fun j4_ =>
  (rv_ck S 10 a1).bind fun u7_ =>
  (fnX12_handAt n S a1 (xs j4_)).bind fun x10_ =>
  (rv_ix L (x4 + (1 : Int32))).bind fun j12_ =>
  (rv_ck S 11 a2).bind fun u15_ =>
  rv_bp (fnX13_handAt n S a2 (xs j12_)) fun x18_ S19_ =>
  if x10_ = x18_ then (
    rv_lt (x4 + (6)) fun x26_ =>
    K23 a1 a2 a3 x26_ S19_)
  else (
    some ((0 : Int32), S19_))
set_option maxRecDepth 20000 in
set_option maxHeartbeats 4000000 in
theorem eL_law_1332 (n : Nat) (L : Nat) (xs : Nat → Int32) (K23 : Nat → Nat → Nat → Int32 → rvS → Option (Int32 × rvS)) (hK23 : ∀ (a1 : Nat) (a2 : Nat) (a3 : Nat) (x4 : Int32) (S : rvS) (r : Int32) (S' : rvS), K23 a1 a2 a3 x4 S = some (r, S') → rv_Ev (mL_law L xs) 200 23 [(0, .ref 25), (1, .ref a1), (2, .ref a2), (3, .ref a3), (4, .int x4)] [] S (some (.int r)) S') (S : rvS) (a1 : Nat) (a2 : Nat) (a3 : Nat) (x4 : Int32) (r : Int32) (S' : rvS) (h : cL_law_1332 n L xs K23 S a1 a2 a3 x4 = some (r, S')) : rv_Ev (mL_law L xs) 200 1332 [(0, .ref 25), (1, .ref a1), (2, .ref a2), (3, .ref a3), (4, .int x4)] [] S (some (.int r)) S' := by
  unfold cL_law_1332 at h
  obtain ⟨_, g1_, h⟩ := rv_b_e h
  obtain ⟨_, g2_, h⟩ := rv_b_e h
  obtain ⟨_, g3_, h⟩ := rv_b_e h
  refine re_aloadn (pc := 1332) 1 (by decide +kernel : decode cL_law 1332 = .ok (.aload_n 1, 1)) rfl ?_
  refine re_aloadn (pc := 1333) 0 (by decide +kernel : decode cL_law 1333 = .ok (.aload_n 0, 1)) rfl ?_
  refine re_iload (pc := 1334) 4 (by decide +kernel : decode cL_law 1334 = .ok (.iload 4, 2)) rfl ?_
  refine re_iconst (pc := 1336) (1 : Int32) (by decide +kernel : decode cL_law 1336 = .ok (.iconst 1, 1)) (by decide) ?_
  refine re_iadd (pc := 1337) (by decide +kernel : decode cL_law 1337 = .ok (.iadd, 1)) ?_
  obtain ⟨j4_, g5_, h⟩ := rv_b_e h
  have z6_ := rv_ix_e g5_
  refine re_sld (pc := 1338) (L := L) (xs := xs) rfl z6_.1 (by decide +kernel : decode cL_law 1338 = .ok (.iaload, 1)) ?_
  refine re_nI (congrArg xs z6_.2.symm) ?_
  obtain ⟨u7_, g8_, h⟩ := rv_b_e h
  obtain ⟨x10_, g11_, h⟩ := rv_b_e h
  have m9_ := metX12_handAt n S a1 (xs j4_) _ g11_
  refine re_cV (pc := 1339) [.int (xs j4_)] m9_ (rv_okl.k ⟨rfl, rfl⟩) (rv_up.rf _ _) (by decide) (rv_ck_e g8_) ⟨by decide, rfl⟩ (Nat.le_of_ble_eq_true rfl) lVL_155 rfl (by decide +kernel : decode cL_law 1339 = .ok (.invokevirtual 155, 3)) ?_
  refine re_aloadn (pc := 1342) 2 (by decide +kernel : decode cL_law 1342 = .ok (.aload_n 2, 1)) rfl ?_
  refine re_aloadn (pc := 1343) 0 (by decide +kernel : decode cL_law 1343 = .ok (.aload_n 0, 1)) rfl ?_
  refine re_iload (pc := 1344) 4 (by decide +kernel : decode cL_law 1344 = .ok (.iload 4, 2)) rfl ?_
  refine re_iconst (pc := 1346) (1 : Int32) (by decide +kernel : decode cL_law 1346 = .ok (.iconst 1, 1)) (by decide) ?_
  refine re_iadd (pc := 1347) (by decide +kernel : decode cL_law 1347 = .ok (.iadd, 1)) ?_
  obtain ⟨j12_, g13_, h⟩ := rv_b_e h
  have z14_ := rv_ix_e g13_
  refine re_sld (pc := 1348) (L := L) (xs := xs) rfl z14_.1 (by decide +kernel : decode cL_law 1348 = .ok (.iaload, 1)) ?_
  refine re_nI (congrArg xs z14_.2.symm) ?_
  obtain ⟨u15_, g16_, h⟩ := rv_b_e h
  obtain ⟨x18_, S19_, g20_, h⟩ := rv_bp_e h
  have m17_ := metX13_handAt n S a2 (xs j12_) _ _ g20_
  have z21_ : rv_same S S19_ := m17_.sh rfl
  have o22_ : a1 < 64 + S19_.1.length := by rw [z21_.1]; exact (rv_vl_e g1_)
  have o23_ : a2 < 64 + S19_.1.length := by rw [z21_.1]; exact (rv_vl_e g2_)
  have o24_ : a3 < 64 + S19_.1.length := by rw [z21_.1]; exact (rv_vl_e g3_)
  refine re_cV (pc := 1349) [.int (xs j12_)] m17_ (rv_okl.k z21_) (rv_up.sh z21_) (by decide) (rv_ck_e g16_) ⟨by decide, rfl⟩ (Nat.le_of_ble_eq_true rfl) lVL_158 rfl (by decide +kernel : decode cL_law 1349 = .ok (.invokevirtual 158, 3)) ?_
  rcases rv_if_e h with ⟨g25_, h⟩ | ⟨g25_, h⟩
  · refine re_icmp_eq_t (pc := 1352) 1836 (by decide +kernel : decode cL_law 1352 = .ok (.if_icmp .eq 484, 3)) (by decide) g25_ ?_
    obtain ⟨x26_, g27_, h⟩ := rv_lt_e h
    refine re_iinc (pc := 1836) 4 x26_ (lv1 := [(4, .int x26_), (0, .ref 25), (1, .ref a1), (2, .ref a2), (3, .ref a3)]) (by decide +kernel : decode cL_law 1836 = .ok (.iinc 4 6, 3)) rfl g27_ (Nat.le_of_ble_eq_true rfl) rfl ?_
    refine re_goto (pc := 1839) 23 (by decide +kernel : decode cL_law 1839 = .ok (.goto (-1816), 3)) (by decide) ?_
    refine re_sub [1, 2, 3, 4, 0] (lv1 := [(0, .ref 25), (1, .ref a1), (2, .ref a2), (3, .ref a3), (4, .int x26_)]) rfl ?_
    exact hK23 a1 a2 a3 x26_ S19_ _ _ h
  · refine re_icmp_eq_f (pc := 1352) 1836 (by decide +kernel : decode cL_law 1352 = .ok (.if_icmp .eq 484, 3)) (by decide) g25_ ?_
    refine re_iconst (pc := 1355) (0 : Int32) (by decide +kernel : decode cL_law 1355 = .ok (.iconst 0, 1)) (by decide) ?_
    cases h
    exact re_iret (fun ty hty => by cases hty; rfl) (by decide +kernel : decode cL_law 1356 = .ok (.ireturn, 1))
noncomputable def cL_law_1357 (n : Nat) (L : Nat) (xs : Nat → Int32) (K23 : Nat → Nat → Nat → Int32 → rvS → Option (Int32 × rvS)) (S : rvS) (a1 : Nat) (a2 : Nat) (a3 : Nat) (x4 : Int32) : Option (Int32 × rvS) :=
  (rv_vl S a1).bind fun _ =>
  (rv_vl S a2).bind fun _ =>
  (rv_vl S a3).bind fun _ =>
  (rv_ix L (x4 + (1 : Int32))).bind fun j4_ =>
  (rv_ck S 10 a1).bind fun u7_ =>
  rv_bp (fnX12_again n S a1 (xs j4_)) fun x10_ S11_ =>
  (rv_ix L (x4 + (1 : Int32))).bind fun j17_ =>
  (rv_ck S11_ 11 a2).bind fun u20_ =>
  rv_bp (fnX13_again n S11_ a2 (xs j17_)) fun x23_ S24_ =>
  if x10_ = x23_ then (
    rv_lt (x4 + (6)) fun x31_ =>
    K23 a1 a2 a3 x31_ S24_)
  else (
    some ((0 : Int32), S24_))
set_option maxRecDepth 20000 in
set_option maxHeartbeats 4000000 in
theorem eL_law_1357 (n : Nat) (L : Nat) (xs : Nat → Int32) (K23 : Nat → Nat → Nat → Int32 → rvS → Option (Int32 × rvS)) (hK23 : ∀ (a1 : Nat) (a2 : Nat) (a3 : Nat) (x4 : Int32) (S : rvS) (r : Int32) (S' : rvS), K23 a1 a2 a3 x4 S = some (r, S') → rv_Ev (mL_law L xs) 200 23 [(0, .ref 25), (1, .ref a1), (2, .ref a2), (3, .ref a3), (4, .int x4)] [] S (some (.int r)) S') (S : rvS) (a1 : Nat) (a2 : Nat) (a3 : Nat) (x4 : Int32) (r : Int32) (S' : rvS) (h : cL_law_1357 n L xs K23 S a1 a2 a3 x4 = some (r, S')) : rv_Ev (mL_law L xs) 200 1357 [(0, .ref 25), (1, .ref a1), (2, .ref a2), (3, .ref a3), (4, .int x4)] [] S (some (.int r)) S' := by
  unfold cL_law_1357 at h
  obtain ⟨_, g1_, h⟩ := rv_b_e h
  obtain ⟨_, g2_, h⟩ := rv_b_e h
  obtain ⟨_, g3_, h⟩ := rv_b_e h
  refine re_aloadn (pc := 1357) 1 (by decide +kernel : decode cL_law 1357 = .ok (.aload_n 1, 1)) rfl ?_
  refine re_aloadn (pc := 1358) 0 (by decide +kernel : decode cL_law 1358 = .ok (.aload_n 0, 1)) rfl ?_
  refine re_iload (pc := 1359) 4 (by decide +kernel : decode cL_law 1359 = .ok (.iload 4, 2)) rfl ?_
  refine re_iconst (pc := 1361) (1 : Int32) (by decide +kernel : decode cL_law 1361 = .ok (.iconst 1, 1)) (by decide) ?_
  refine re_iadd (pc := 1362) (by decide +kernel : decode cL_law 1362 = .ok (.iadd, 1)) ?_
  obtain ⟨j4_, g5_, h⟩ := rv_b_e h
  have z6_ := rv_ix_e g5_
  refine re_sld (pc := 1363) (L := L) (xs := xs) rfl z6_.1 (by decide +kernel : decode cL_law 1363 = .ok (.iaload, 1)) ?_
  refine re_nI (congrArg xs z6_.2.symm) ?_
  obtain ⟨u7_, g8_, h⟩ := rv_b_e h
  obtain ⟨x10_, S11_, g12_, h⟩ := rv_bp_e h
  have m9_ := metX12_again n S a1 (xs j4_) _ _ g12_
  have z13_ : rv_same S S11_ := m9_.sh rfl
  have o14_ : a1 < 64 + S11_.1.length := by rw [z13_.1]; exact (rv_vl_e g1_)
  have o15_ : a2 < 64 + S11_.1.length := by rw [z13_.1]; exact (rv_vl_e g2_)
  have o16_ : a3 < 64 + S11_.1.length := by rw [z13_.1]; exact (rv_vl_e g3_)
  refine re_cV (pc := 1364) [.int (xs j4_)] m9_ (rv_okl.k z13_) (rv_up.sh z13_) (by decide) (rv_ck_e g8_) ⟨by decide, rfl⟩ (Nat.le_of_ble_eq_true rfl) lVL_159 rfl (by decide +kernel : decode cL_law 1364 = .ok (.invokevirtual 159, 3)) ?_
  refine re_aloadn (pc := 1367) 2 (by decide +kernel : decode cL_law 1367 = .ok (.aload_n 2, 1)) rfl ?_
  refine re_aloadn (pc := 1368) 0 (by decide +kernel : decode cL_law 1368 = .ok (.aload_n 0, 1)) rfl ?_
  refine re_iload (pc := 1369) 4 (by decide +kernel : decode cL_law 1369 = .ok (.iload 4, 2)) rfl ?_
  refine re_iconst (pc := 1371) (1 : Int32) (by decide +kernel : decode cL_law 1371 = .ok (.iconst 1, 1)) (by decide) ?_
  refine re_iadd (pc := 1372) (by decide +kernel : decode cL_law 1372 = .ok (.iadd, 1)) ?_
  obtain ⟨j17_, g18_, h⟩ := rv_b_e h
  have z19_ := rv_ix_e g18_
  refine re_sld (pc := 1373) (L := L) (xs := xs) rfl z19_.1 (by decide +kernel : decode cL_law 1373 = .ok (.iaload, 1)) ?_
  refine re_nI (congrArg xs z19_.2.symm) ?_
  obtain ⟨u20_, g21_, h⟩ := rv_b_e h
  obtain ⟨x23_, S24_, g25_, h⟩ := rv_bp_e h
  have m22_ := metX13_again n S11_ a2 (xs j17_) _ _ g25_
  have z26_ : rv_same S11_ S24_ := m22_.sh rfl
  have o27_ : a1 < 64 + S24_.1.length := by rw [z26_.1]; exact o14_
  have o28_ : a2 < 64 + S24_.1.length := by rw [z26_.1]; exact o15_
  have o29_ : a3 < 64 + S24_.1.length := by rw [z26_.1]; exact o16_
  refine re_cV (pc := 1374) [.int (xs j17_)] m22_ (rv_okl.k z26_) (rv_up.sh z26_) (by decide) (rv_ck_e g21_) ⟨by decide, rfl⟩ (Nat.le_of_ble_eq_true rfl) lVL_162 rfl (by decide +kernel : decode cL_law 1374 = .ok (.invokevirtual 162, 3)) ?_
  rcases rv_if_e h with ⟨g30_, h⟩ | ⟨g30_, h⟩
  · refine re_icmp_eq_t (pc := 1377) 1836 (by decide +kernel : decode cL_law 1377 = .ok (.if_icmp .eq 459, 3)) (by decide) g30_ ?_
    obtain ⟨x31_, g32_, h⟩ := rv_lt_e h
    refine re_iinc (pc := 1836) 4 x31_ (lv1 := [(4, .int x31_), (0, .ref 25), (1, .ref a1), (2, .ref a2), (3, .ref a3)]) (by decide +kernel : decode cL_law 1836 = .ok (.iinc 4 6, 3)) rfl g32_ (Nat.le_of_ble_eq_true rfl) rfl ?_
    refine re_goto (pc := 1839) 23 (by decide +kernel : decode cL_law 1839 = .ok (.goto (-1816), 3)) (by decide) ?_
    refine re_sub [1, 2, 3, 4, 0] (lv1 := [(0, .ref 25), (1, .ref a1), (2, .ref a2), (3, .ref a3), (4, .int x31_)]) rfl ?_
    exact hK23 a1 a2 a3 x31_ S24_ _ _ h
  · refine re_icmp_eq_f (pc := 1377) 1836 (by decide +kernel : decode cL_law 1377 = .ok (.if_icmp .eq 459, 3)) (by decide) g30_ ?_
    refine re_iconst (pc := 1380) (0 : Int32) (by decide +kernel : decode cL_law 1380 = .ok (.iconst 0, 1)) (by decide) ?_
    cases h
    exact re_iret (fun ty hty => by cases hty; rfl) (by decide +kernel : decode cL_law 1381 = .ok (.ireturn, 1))
noncomputable def cL_law_1382 (n : Nat) (L : Nat) (xs : Nat → Int32) (K23 : Nat → Nat → Nat → Int32 → rvS → Option (Int32 × rvS)) (S : rvS) (a1 : Nat) (a2 : Nat) (a3 : Nat) (x4 : Int32) : Option (Int32 × rvS) :=
  (rv_vl S a1).bind fun _ =>
  (rv_vl S a2).bind fun _ =>
  (rv_vl S a3).bind fun _ =>
  (rv_ix L (x4 + (1 : Int32))).bind fun j4_ =>
  (rv_ck S 10 a1).bind fun u7_ =>
  rv_bp (fnX12_ever n S a1 (xs j4_)) fun x10_ S11_ =>
  (rv_ix L (x4 + (1 : Int32))).bind fun j17_ =>
  (rv_ck S11_ 11 a2).bind fun u20_ =>
  rv_bp (fnX13_ever n S11_ a2 (xs j17_)) fun x23_ S24_ =>
  if x10_ = x23_ then (
    rv_lt (x4 + (6)) fun x31_ =>
    K23 a1 a2 a3 x31_ S24_)
  else (
    some ((0 : Int32), S24_))
set_option maxRecDepth 20000 in
set_option maxHeartbeats 4000000 in
theorem eL_law_1382 (n : Nat) (L : Nat) (xs : Nat → Int32) (K23 : Nat → Nat → Nat → Int32 → rvS → Option (Int32 × rvS)) (hK23 : ∀ (a1 : Nat) (a2 : Nat) (a3 : Nat) (x4 : Int32) (S : rvS) (r : Int32) (S' : rvS), K23 a1 a2 a3 x4 S = some (r, S') → rv_Ev (mL_law L xs) 200 23 [(0, .ref 25), (1, .ref a1), (2, .ref a2), (3, .ref a3), (4, .int x4)] [] S (some (.int r)) S') (S : rvS) (a1 : Nat) (a2 : Nat) (a3 : Nat) (x4 : Int32) (r : Int32) (S' : rvS) (h : cL_law_1382 n L xs K23 S a1 a2 a3 x4 = some (r, S')) : rv_Ev (mL_law L xs) 200 1382 [(0, .ref 25), (1, .ref a1), (2, .ref a2), (3, .ref a3), (4, .int x4)] [] S (some (.int r)) S' := by
  unfold cL_law_1382 at h
  obtain ⟨_, g1_, h⟩ := rv_b_e h
  obtain ⟨_, g2_, h⟩ := rv_b_e h
  obtain ⟨_, g3_, h⟩ := rv_b_e h
  refine re_aloadn (pc := 1382) 1 (by decide +kernel : decode cL_law 1382 = .ok (.aload_n 1, 1)) rfl ?_
  refine re_aloadn (pc := 1383) 0 (by decide +kernel : decode cL_law 1383 = .ok (.aload_n 0, 1)) rfl ?_
  refine re_iload (pc := 1384) 4 (by decide +kernel : decode cL_law 1384 = .ok (.iload 4, 2)) rfl ?_
  refine re_iconst (pc := 1386) (1 : Int32) (by decide +kernel : decode cL_law 1386 = .ok (.iconst 1, 1)) (by decide) ?_
  refine re_iadd (pc := 1387) (by decide +kernel : decode cL_law 1387 = .ok (.iadd, 1)) ?_
  obtain ⟨j4_, g5_, h⟩ := rv_b_e h
  have z6_ := rv_ix_e g5_
  refine re_sld (pc := 1388) (L := L) (xs := xs) rfl z6_.1 (by decide +kernel : decode cL_law 1388 = .ok (.iaload, 1)) ?_
  refine re_nI (congrArg xs z6_.2.symm) ?_
  obtain ⟨u7_, g8_, h⟩ := rv_b_e h
  obtain ⟨x10_, S11_, g12_, h⟩ := rv_bp_e h
  have m9_ := metX12_ever n S a1 (xs j4_) _ _ g12_
  have z13_ : rv_same S S11_ := m9_.sh rfl
  have o14_ : a1 < 64 + S11_.1.length := by rw [z13_.1]; exact (rv_vl_e g1_)
  have o15_ : a2 < 64 + S11_.1.length := by rw [z13_.1]; exact (rv_vl_e g2_)
  have o16_ : a3 < 64 + S11_.1.length := by rw [z13_.1]; exact (rv_vl_e g3_)
  refine re_cV (pc := 1389) [.int (xs j4_)] m9_ (rv_okl.k z13_) (rv_up.sh z13_) (by decide) (rv_ck_e g8_) ⟨by decide, rfl⟩ (Nat.le_of_ble_eq_true rfl) lVL_163 rfl (by decide +kernel : decode cL_law 1389 = .ok (.invokevirtual 163, 3)) ?_
  refine re_aloadn (pc := 1392) 2 (by decide +kernel : decode cL_law 1392 = .ok (.aload_n 2, 1)) rfl ?_
  refine re_aloadn (pc := 1393) 0 (by decide +kernel : decode cL_law 1393 = .ok (.aload_n 0, 1)) rfl ?_
  refine re_iload (pc := 1394) 4 (by decide +kernel : decode cL_law 1394 = .ok (.iload 4, 2)) rfl ?_
  refine re_iconst (pc := 1396) (1 : Int32) (by decide +kernel : decode cL_law 1396 = .ok (.iconst 1, 1)) (by decide) ?_
  refine re_iadd (pc := 1397) (by decide +kernel : decode cL_law 1397 = .ok (.iadd, 1)) ?_
  obtain ⟨j17_, g18_, h⟩ := rv_b_e h
  have z19_ := rv_ix_e g18_
  refine re_sld (pc := 1398) (L := L) (xs := xs) rfl z19_.1 (by decide +kernel : decode cL_law 1398 = .ok (.iaload, 1)) ?_
  refine re_nI (congrArg xs z19_.2.symm) ?_
  obtain ⟨u20_, g21_, h⟩ := rv_b_e h
  obtain ⟨x23_, S24_, g25_, h⟩ := rv_bp_e h
  have m22_ := metX13_ever n S11_ a2 (xs j17_) _ _ g25_
  have z26_ : rv_same S11_ S24_ := m22_.sh rfl
  have o27_ : a1 < 64 + S24_.1.length := by rw [z26_.1]; exact o14_
  have o28_ : a2 < 64 + S24_.1.length := by rw [z26_.1]; exact o15_
  have o29_ : a3 < 64 + S24_.1.length := by rw [z26_.1]; exact o16_
  refine re_cV (pc := 1399) [.int (xs j17_)] m22_ (rv_okl.k z26_) (rv_up.sh z26_) (by decide) (rv_ck_e g21_) ⟨by decide, rfl⟩ (Nat.le_of_ble_eq_true rfl) lVL_166 rfl (by decide +kernel : decode cL_law 1399 = .ok (.invokevirtual 166, 3)) ?_
  rcases rv_if_e h with ⟨g30_, h⟩ | ⟨g30_, h⟩
  · refine re_icmp_eq_t (pc := 1402) 1836 (by decide +kernel : decode cL_law 1402 = .ok (.if_icmp .eq 434, 3)) (by decide) g30_ ?_
    obtain ⟨x31_, g32_, h⟩ := rv_lt_e h
    refine re_iinc (pc := 1836) 4 x31_ (lv1 := [(4, .int x31_), (0, .ref 25), (1, .ref a1), (2, .ref a2), (3, .ref a3)]) (by decide +kernel : decode cL_law 1836 = .ok (.iinc 4 6, 3)) rfl g32_ (Nat.le_of_ble_eq_true rfl) rfl ?_
    refine re_goto (pc := 1839) 23 (by decide +kernel : decode cL_law 1839 = .ok (.goto (-1816), 3)) (by decide) ?_
    refine re_sub [1, 2, 3, 4, 0] (lv1 := [(0, .ref 25), (1, .ref a1), (2, .ref a2), (3, .ref a3), (4, .int x31_)]) rfl ?_
    exact hK23 a1 a2 a3 x31_ S24_ _ _ h
  · refine re_icmp_eq_f (pc := 1402) 1836 (by decide +kernel : decode cL_law 1402 = .ok (.if_icmp .eq 434, 3)) (by decide) g30_ ?_
    refine re_iconst (pc := 1405) (0 : Int32) (by decide +kernel : decode cL_law 1405 = .ok (.iconst 0, 1)) (by decide) ?_
    cases h
    exact re_iret (fun ty hty => by cases hty; rfl) (by decide +kernel : decode cL_law 1406 = .ok (.ireturn, 1))
noncomputable def cL_law_1407 (n : Nat) (L : Nat) (xs : Nat → Int32) (K23 : Nat → Nat → Nat → Int32 → rvS → Option (Int32 × rvS)) (S : rvS) (a1 : Nat) (a2 : Nat) (a3 : Nat) (x4 : Int32) : Option (Int32 × rvS) :=
  (rv_vl S a1).bind fun _ =>
  (rv_vl S a2).bind fun _ =>
  (rv_vl S a3).bind fun _ =>
  (rv_ix L (x4 + (1 : Int32))).bind fun j4_ =>
  (rv_ix L (x4 + (2 : Int32))).bind fun j7_ =>
  rv_bp (fnL_debt n S a1 (xs j4_) (xs j7_) a3) fun x10_ S11_ =>
  (rv_ix L (x4 + (1 : Int32))).bind fun j17_ =>
  (rv_ix L (x4 + (2 : Int32))).bind fun j20_ =>
  (rv_ck S11_ 11 a2).bind fun u23_ =>
  rv_bp (fnX13_debt n S11_ a2 (xs j17_) (xs j20_)) fun x26_ S27_ =>
  (rv_ck S27_ 11 a2).bind fun u33_ =>
  (fnX13_thrown n S27_ a2).bind fun x36_ =>
  if x36_ = x10_ then (
    if x10_ = 0 then (
      (rv_aL S27_ a3 (0 : Int32)).bind fun x42_ =>
      if (lg_cmp x42_ (x26_.toInt64)) = 0 then (
        rv_lt (x4 + (6)) fun x45_ =>
        K23 a1 a2 a3 x45_ S27_)
      else (
        some ((0 : Int32), S27_)))
    else (
      rv_lt (x4 + (6)) fun x40_ =>
      K23 a1 a2 a3 x40_ S27_))
  else (
    some ((0 : Int32), S27_))
set_option maxRecDepth 20000 in
set_option maxHeartbeats 4000000 in
theorem eL_law_1407 (n : Nat) (L : Nat) (xs : Nat → Int32) (K23 : Nat → Nat → Nat → Int32 → rvS → Option (Int32 × rvS)) (hK23 : ∀ (a1 : Nat) (a2 : Nat) (a3 : Nat) (x4 : Int32) (S : rvS) (r : Int32) (S' : rvS), K23 a1 a2 a3 x4 S = some (r, S') → rv_Ev (mL_law L xs) 200 23 [(0, .ref 25), (1, .ref a1), (2, .ref a2), (3, .ref a3), (4, .int x4)] [] S (some (.int r)) S') (S : rvS) (a1 : Nat) (a2 : Nat) (a3 : Nat) (x4 : Int32) (r : Int32) (S' : rvS) (h : cL_law_1407 n L xs K23 S a1 a2 a3 x4 = some (r, S')) : rv_Ev (mL_law L xs) 200 1407 [(0, .ref 25), (1, .ref a1), (2, .ref a2), (3, .ref a3), (4, .int x4)] [] S (some (.int r)) S' := by
  unfold cL_law_1407 at h
  obtain ⟨_, g1_, h⟩ := rv_b_e h
  obtain ⟨_, g2_, h⟩ := rv_b_e h
  obtain ⟨_, g3_, h⟩ := rv_b_e h
  refine re_aloadn (pc := 1407) 1 (by decide +kernel : decode cL_law 1407 = .ok (.aload_n 1, 1)) rfl ?_
  refine re_aloadn (pc := 1408) 0 (by decide +kernel : decode cL_law 1408 = .ok (.aload_n 0, 1)) rfl ?_
  refine re_iload (pc := 1409) 4 (by decide +kernel : decode cL_law 1409 = .ok (.iload 4, 2)) rfl ?_
  refine re_iconst (pc := 1411) (1 : Int32) (by decide +kernel : decode cL_law 1411 = .ok (.iconst 1, 1)) (by decide) ?_
  refine re_iadd (pc := 1412) (by decide +kernel : decode cL_law 1412 = .ok (.iadd, 1)) ?_
  obtain ⟨j4_, g5_, h⟩ := rv_b_e h
  have z6_ := rv_ix_e g5_
  refine re_sld (pc := 1413) (L := L) (xs := xs) rfl z6_.1 (by decide +kernel : decode cL_law 1413 = .ok (.iaload, 1)) ?_
  refine re_nI (congrArg xs z6_.2.symm) ?_
  refine re_aloadn (pc := 1414) 0 (by decide +kernel : decode cL_law 1414 = .ok (.aload_n 0, 1)) rfl ?_
  refine re_iload (pc := 1415) 4 (by decide +kernel : decode cL_law 1415 = .ok (.iload 4, 2)) rfl ?_
  refine re_iconst (pc := 1417) (2 : Int32) (by decide +kernel : decode cL_law 1417 = .ok (.iconst 2, 1)) (by decide) ?_
  refine re_iadd (pc := 1418) (by decide +kernel : decode cL_law 1418 = .ok (.iadd, 1)) ?_
  obtain ⟨j7_, g8_, h⟩ := rv_b_e h
  have z9_ := rv_ix_e g8_
  refine re_sld (pc := 1419) (L := L) (xs := xs) rfl z9_.1 (by decide +kernel : decode cL_law 1419 = .ok (.iaload, 1)) ?_
  refine re_nI (congrArg xs z9_.2.symm) ?_
  refine re_aloadn (pc := 1420) 3 (by decide +kernel : decode cL_law 1420 = .ok (.aload_n 3, 1)) rfl ?_
  obtain ⟨x10_, S11_, g12_, h⟩ := rv_bp_e h
  have m13_ := metL_debt n S a1 (xs j4_) (xs j7_) a3 _ _ g12_
  refine re_cW (pc := 1421) (st := []) [.ref a1, .int (xs j4_), .int (xs j7_), .ref a3] m13_ (rv_okl.n (rv_alv (List.forall_mem_cons.mpr ⟨(rv_lo (by decide)), (List.forall_mem_cons.mpr ⟨(rv_vl_e g1_), (List.forall_mem_cons.mpr ⟨(rv_vl_e g2_), (List.forall_mem_cons.mpr ⟨(rv_vl_e g3_), (List.forall_mem_cons.mpr ⟨trivial, (fun _ z => absurd z List.not_mem_nil)⟩)⟩)⟩)⟩)⟩)) ((fun _ z => absurd z List.not_mem_nil))) ⟨fun z => absurd (show true = false from z) (by decide), m13_.1.2⟩ (by decide) (Nat.le_of_ble_eq_true rfl) lL_debt (rw6 218 (w := Cond.methodLink RL 167 yL_debt) (by decide +kernel) rfl) rfl (by decide +kernel : decode cL_law 1421 = .ok (.invokestatic 167, 3)) ?_
  have o14_ : a1 < 64 + S11_.1.length := Nat.lt_of_lt_of_le (rv_vl_e g1_) (Nat.add_le_add_left m13_.1.2.1 64)
  have o15_ : a2 < 64 + S11_.1.length := Nat.lt_of_lt_of_le (rv_vl_e g2_) (Nat.add_le_add_left m13_.1.2.1 64)
  have o16_ : a3 < 64 + S11_.1.length := Nat.lt_of_lt_of_le (rv_vl_e g3_) (Nat.add_le_add_left m13_.1.2.1 64)
  refine re_istore (pc := 1424) (lv1 := [(5, .int x10_), (0, .ref 25), (1, .ref a1), (2, .ref a2), (3, .ref a3), (4, .int x4)]) (by decide +kernel : decode cL_law 1424 = .ok (.istore 5, 2)) (Nat.le_of_ble_eq_true rfl) rfl ?_
  refine re_aloadn (pc := 1426) 3 (by decide +kernel : decode cL_law 1426 = .ok (.aload_n 2, 1)) rfl ?_
  refine re_aloadn (pc := 1427) 1 (by decide +kernel : decode cL_law 1427 = .ok (.aload_n 0, 1)) rfl ?_
  refine re_iload (pc := 1428) 5 (by decide +kernel : decode cL_law 1428 = .ok (.iload 4, 2)) rfl ?_
  refine re_iconst (pc := 1430) (1 : Int32) (by decide +kernel : decode cL_law 1430 = .ok (.iconst 1, 1)) (by decide) ?_
  refine re_iadd (pc := 1431) (by decide +kernel : decode cL_law 1431 = .ok (.iadd, 1)) ?_
  obtain ⟨j17_, g18_, h⟩ := rv_b_e h
  have z19_ := rv_ix_e g18_
  refine re_sld (pc := 1432) (L := L) (xs := xs) rfl z19_.1 (by decide +kernel : decode cL_law 1432 = .ok (.iaload, 1)) ?_
  refine re_nI (congrArg xs z19_.2.symm) ?_
  refine re_aloadn (pc := 1433) 1 (by decide +kernel : decode cL_law 1433 = .ok (.aload_n 0, 1)) rfl ?_
  refine re_iload (pc := 1434) 5 (by decide +kernel : decode cL_law 1434 = .ok (.iload 4, 2)) rfl ?_
  refine re_iconst (pc := 1436) (2 : Int32) (by decide +kernel : decode cL_law 1436 = .ok (.iconst 2, 1)) (by decide) ?_
  refine re_iadd (pc := 1437) (by decide +kernel : decode cL_law 1437 = .ok (.iadd, 1)) ?_
  obtain ⟨j20_, g21_, h⟩ := rv_b_e h
  have z22_ := rv_ix_e g21_
  refine re_sld (pc := 1438) (L := L) (xs := xs) rfl z22_.1 (by decide +kernel : decode cL_law 1438 = .ok (.iaload, 1)) ?_
  refine re_nI (congrArg xs z22_.2.symm) ?_
  obtain ⟨u23_, g24_, h⟩ := rv_b_e h
  obtain ⟨x26_, S27_, g28_, h⟩ := rv_bp_e h
  have m25_ := metX13_debt n S11_ a2 (xs j17_) (xs j20_) _ _ g28_
  have z29_ : rv_same S11_ S27_ := m25_.sh rfl
  have o30_ : a1 < 64 + S27_.1.length := by rw [z29_.1]; exact o14_
  have o31_ : a2 < 64 + S27_.1.length := by rw [z29_.1]; exact o15_
  have o32_ : a3 < 64 + S27_.1.length := by rw [z29_.1]; exact o16_
  refine re_cV (pc := 1439) [.int (xs j17_), .int (xs j20_)] m25_ (rv_okl.k z29_) (rv_up.sh z29_) (by decide) (rv_ck_e g24_) ⟨by decide, rfl⟩ (Nat.le_of_ble_eq_true rfl) lVL_169 rfl (by decide +kernel : decode cL_law 1439 = .ok (.invokevirtual 169, 3)) ?_
  refine re_istore (pc := 1442) (lv1 := [(6, .int x26_), (5, .int x10_), (0, .ref 25), (1, .ref a1), (2, .ref a2), (3, .ref a3), (4, .int x4)]) (by decide +kernel : decode cL_law 1442 = .ok (.istore 6, 2)) (Nat.le_of_ble_eq_true rfl) rfl ?_
  refine re_aloadn (pc := 1444) 4 (by decide +kernel : decode cL_law 1444 = .ok (.aload_n 2, 1)) rfl ?_
  obtain ⟨u33_, g34_, h⟩ := rv_b_e h
  obtain ⟨x36_, g37_, h⟩ := rv_b_e h
  have m35_ := metX13_thrown n S27_ a2 _ g37_
  refine re_cV (pc := 1445) [] m35_ (rv_okl.k ⟨rfl, rfl⟩) (rv_up.rf _ _) (by decide) (rv_ck_e g34_) ⟨by decide, rfl⟩ (Nat.le_of_ble_eq_true rfl) lVL_50 rfl (by decide +kernel : decode cL_law 1445 = .ok (.invokevirtual 50, 3)) ?_
  refine re_iload (pc := 1448) 1 (by decide +kernel : decode cL_law 1448 = .ok (.iload 5, 2)) rfl ?_
  rcases rv_if_e h with ⟨g38_, h⟩ | ⟨g38_, h⟩
  · refine re_icmp_eq_t (pc := 1450) 1455 (by decide +kernel : decode cL_law 1450 = .ok (.if_icmp .eq 5, 3)) (by decide) g38_ ?_
    refine re_iload (pc := 1455) 1 (by decide +kernel : decode cL_law 1455 = .ok (.iload 5, 2)) rfl ?_
    rcases rv_if_e h with ⟨g39_, h⟩ | ⟨g39_, h⟩
    · refine re_if_ne_f (pc := 1457) 1472 (by decide +kernel : decode cL_law 1457 = .ok (.ifCond .ne 15, 3)) (by decide) g39_ ?_
      refine re_aloadn (pc := 1460) 5 (by decide +kernel : decode cL_law 1460 = .ok (.aload_n 3, 1)) rfl ?_
      refine re_iconst (pc := 1461) (0 : Int32) (by decide +kernel : decode cL_law 1461 = .ok (.iconst 0, 1)) (by decide) ?_
      obtain ⟨x42_, g43_, h⟩ := rv_b_e h
      refine re_aL (pc := 1462) g43_ (by decide +kernel : decode cL_law 1462 = .ok (.laload, 1)) ?_
      refine re_iload (pc := 1463) 0 (by decide +kernel : decode cL_law 1463 = .ok (.iload 6, 2)) rfl ?_
      refine re_i2l (pc := 1465) (by decide +kernel : decode cL_law 1465 = .ok (.i2l, 1)) ?_
      refine re_lcmp (pc := 1466) (by decide +kernel : decode cL_law 1466 = .ok (.lcmp, 1)) ?_
      rcases rv_if_e h with ⟨g44_, h⟩ | ⟨g44_, h⟩
      · refine re_if_eq_t (pc := 1467) 1472 (by decide +kernel : decode cL_law 1467 = .ok (.ifCond .eq 5, 3)) (by decide) g44_ ?_
        refine re_goto (pc := 1472) 1836 (by decide +kernel : decode cL_law 1472 = .ok (.goto 364, 3)) (by decide) ?_
        obtain ⟨x45_, g46_, h⟩ := rv_lt_e h
        refine re_iinc (pc := 1836) 6 x45_ (lv1 := [(4, .int x45_), (6, .int x26_), (5, .int x10_), (0, .ref 25), (1, .ref a1), (2, .ref a2), (3, .ref a3)]) (by decide +kernel : decode cL_law 1836 = .ok (.iinc 4 6, 3)) rfl g46_ (Nat.le_of_ble_eq_true rfl) rfl ?_
        refine re_goto (pc := 1839) 23 (by decide +kernel : decode cL_law 1839 = .ok (.goto (-1816), 3)) (by decide) ?_
        refine re_sub [3, 4, 5, 6, 0] (lv1 := [(0, .ref 25), (1, .ref a1), (2, .ref a2), (3, .ref a3), (4, .int x45_)]) rfl ?_
        exact hK23 a1 a2 a3 x45_ S27_ _ _ h
      · refine re_if_eq_f (pc := 1467) 1472 (by decide +kernel : decode cL_law 1467 = .ok (.ifCond .eq 5, 3)) (by decide) g44_ ?_
        refine re_iconst (pc := 1470) (0 : Int32) (by decide +kernel : decode cL_law 1470 = .ok (.iconst 0, 1)) (by decide) ?_
        cases h
        exact re_iret (fun ty hty => by cases hty; rfl) (by decide +kernel : decode cL_law 1471 = .ok (.ireturn, 1))
    · refine re_if_ne_t (pc := 1457) 1472 (by decide +kernel : decode cL_law 1457 = .ok (.ifCond .ne 15, 3)) (by decide) g39_ ?_
      refine re_goto (pc := 1472) 1836 (by decide +kernel : decode cL_law 1472 = .ok (.goto 364, 3)) (by decide) ?_
      obtain ⟨x40_, g41_, h⟩ := rv_lt_e h
      refine re_iinc (pc := 1836) 6 x40_ (lv1 := [(4, .int x40_), (6, .int x26_), (5, .int x10_), (0, .ref 25), (1, .ref a1), (2, .ref a2), (3, .ref a3)]) (by decide +kernel : decode cL_law 1836 = .ok (.iinc 4 6, 3)) rfl g41_ (Nat.le_of_ble_eq_true rfl) rfl ?_
      refine re_goto (pc := 1839) 23 (by decide +kernel : decode cL_law 1839 = .ok (.goto (-1816), 3)) (by decide) ?_
      refine re_sub [3, 4, 5, 6, 0] (lv1 := [(0, .ref 25), (1, .ref a1), (2, .ref a2), (3, .ref a3), (4, .int x40_)]) rfl ?_
      exact hK23 a1 a2 a3 x40_ S27_ _ _ h
  · refine re_icmp_eq_f (pc := 1450) 1455 (by decide +kernel : decode cL_law 1450 = .ok (.if_icmp .eq 5, 3)) (by decide) g38_ ?_
    refine re_iconst (pc := 1453) (0 : Int32) (by decide +kernel : decode cL_law 1453 = .ok (.iconst 0, 1)) (by decide) ?_
    cases h
    exact re_iret (fun ty hty => by cases hty; rfl) (by decide +kernel : decode cL_law 1454 = .ok (.ireturn, 1))
noncomputable def cL_law_1475 (n : Nat) (L : Nat) (xs : Nat → Int32) (K23 : Nat → Nat → Nat → Int32 → rvS → Option (Int32 × rvS)) (S : rvS) (a1 : Nat) (a2 : Nat) (a3 : Nat) (x4 : Int32) : Option (Int32 × rvS) :=
  (rv_vl S a1).bind fun _ =>
  (rv_vl S a2).bind fun _ =>
  (rv_vl S a3).bind fun _ =>
  (rv_ix L (x4 + (1 : Int32))).bind fun j4_ =>
  (rv_ck S 10 a1).bind fun u7_ =>
  rv_bp (fnX12_clear n S a1 (xs j4_)) fun x10_ S11_ =>
  (rv_ix L (x4 + (1 : Int32))).bind fun j17_ =>
  (rv_ck S11_ 11 a2).bind fun u20_ =>
  rv_bp (fnX13_clear n S11_ a2 (xs j17_)) fun x23_ S24_ =>
  if x10_ = x23_ then (
    rv_lt (x4 + (6)) fun x31_ =>
    K23 a1 a2 a3 x31_ S24_)
  else (
    some ((0 : Int32), S24_))
set_option maxRecDepth 20000 in
set_option maxHeartbeats 4000000 in
theorem eL_law_1475 (n : Nat) (L : Nat) (xs : Nat → Int32) (K23 : Nat → Nat → Nat → Int32 → rvS → Option (Int32 × rvS)) (hK23 : ∀ (a1 : Nat) (a2 : Nat) (a3 : Nat) (x4 : Int32) (S : rvS) (r : Int32) (S' : rvS), K23 a1 a2 a3 x4 S = some (r, S') → rv_Ev (mL_law L xs) 200 23 [(0, .ref 25), (1, .ref a1), (2, .ref a2), (3, .ref a3), (4, .int x4)] [] S (some (.int r)) S') (S : rvS) (a1 : Nat) (a2 : Nat) (a3 : Nat) (x4 : Int32) (r : Int32) (S' : rvS) (h : cL_law_1475 n L xs K23 S a1 a2 a3 x4 = some (r, S')) : rv_Ev (mL_law L xs) 200 1475 [(0, .ref 25), (1, .ref a1), (2, .ref a2), (3, .ref a3), (4, .int x4)] [] S (some (.int r)) S' := by
  unfold cL_law_1475 at h
  obtain ⟨_, g1_, h⟩ := rv_b_e h
  obtain ⟨_, g2_, h⟩ := rv_b_e h
  obtain ⟨_, g3_, h⟩ := rv_b_e h
  refine re_aloadn (pc := 1475) 1 (by decide +kernel : decode cL_law 1475 = .ok (.aload_n 1, 1)) rfl ?_
  refine re_aloadn (pc := 1476) 0 (by decide +kernel : decode cL_law 1476 = .ok (.aload_n 0, 1)) rfl ?_
  refine re_iload (pc := 1477) 4 (by decide +kernel : decode cL_law 1477 = .ok (.iload 4, 2)) rfl ?_
  refine re_iconst (pc := 1479) (1 : Int32) (by decide +kernel : decode cL_law 1479 = .ok (.iconst 1, 1)) (by decide) ?_
  refine re_iadd (pc := 1480) (by decide +kernel : decode cL_law 1480 = .ok (.iadd, 1)) ?_
  obtain ⟨j4_, g5_, h⟩ := rv_b_e h
  have z6_ := rv_ix_e g5_
  refine re_sld (pc := 1481) (L := L) (xs := xs) rfl z6_.1 (by decide +kernel : decode cL_law 1481 = .ok (.iaload, 1)) ?_
  refine re_nI (congrArg xs z6_.2.symm) ?_
  obtain ⟨u7_, g8_, h⟩ := rv_b_e h
  obtain ⟨x10_, S11_, g12_, h⟩ := rv_bp_e h
  have m9_ := metX12_clear n S a1 (xs j4_) _ _ g12_
  have z13_ : rv_same S S11_ := m9_.sh rfl
  have o14_ : a1 < 64 + S11_.1.length := by rw [z13_.1]; exact (rv_vl_e g1_)
  have o15_ : a2 < 64 + S11_.1.length := by rw [z13_.1]; exact (rv_vl_e g2_)
  have o16_ : a3 < 64 + S11_.1.length := by rw [z13_.1]; exact (rv_vl_e g3_)
  refine re_cV (pc := 1482) [.int (xs j4_)] m9_ (rv_okl.k z13_) (rv_up.sh z13_) (by decide) (rv_ck_e g8_) ⟨by decide, rfl⟩ (Nat.le_of_ble_eq_true rfl) lVL_170 rfl (by decide +kernel : decode cL_law 1482 = .ok (.invokevirtual 170, 3)) ?_
  refine re_aloadn (pc := 1485) 2 (by decide +kernel : decode cL_law 1485 = .ok (.aload_n 2, 1)) rfl ?_
  refine re_aloadn (pc := 1486) 0 (by decide +kernel : decode cL_law 1486 = .ok (.aload_n 0, 1)) rfl ?_
  refine re_iload (pc := 1487) 4 (by decide +kernel : decode cL_law 1487 = .ok (.iload 4, 2)) rfl ?_
  refine re_iconst (pc := 1489) (1 : Int32) (by decide +kernel : decode cL_law 1489 = .ok (.iconst 1, 1)) (by decide) ?_
  refine re_iadd (pc := 1490) (by decide +kernel : decode cL_law 1490 = .ok (.iadd, 1)) ?_
  obtain ⟨j17_, g18_, h⟩ := rv_b_e h
  have z19_ := rv_ix_e g18_
  refine re_sld (pc := 1491) (L := L) (xs := xs) rfl z19_.1 (by decide +kernel : decode cL_law 1491 = .ok (.iaload, 1)) ?_
  refine re_nI (congrArg xs z19_.2.symm) ?_
  obtain ⟨u20_, g21_, h⟩ := rv_b_e h
  obtain ⟨x23_, S24_, g25_, h⟩ := rv_bp_e h
  have m22_ := metX13_clear n S11_ a2 (xs j17_) _ _ g25_
  have z26_ : rv_same S11_ S24_ := m22_.sh rfl
  have o27_ : a1 < 64 + S24_.1.length := by rw [z26_.1]; exact o14_
  have o28_ : a2 < 64 + S24_.1.length := by rw [z26_.1]; exact o15_
  have o29_ : a3 < 64 + S24_.1.length := by rw [z26_.1]; exact o16_
  refine re_cV (pc := 1492) [.int (xs j17_)] m22_ (rv_okl.k z26_) (rv_up.sh z26_) (by decide) (rv_ck_e g21_) ⟨by decide, rfl⟩ (Nat.le_of_ble_eq_true rfl) lVL_173 rfl (by decide +kernel : decode cL_law 1492 = .ok (.invokevirtual 173, 3)) ?_
  rcases rv_if_e h with ⟨g30_, h⟩ | ⟨g30_, h⟩
  · refine re_icmp_eq_t (pc := 1495) 1836 (by decide +kernel : decode cL_law 1495 = .ok (.if_icmp .eq 341, 3)) (by decide) g30_ ?_
    obtain ⟨x31_, g32_, h⟩ := rv_lt_e h
    refine re_iinc (pc := 1836) 4 x31_ (lv1 := [(4, .int x31_), (0, .ref 25), (1, .ref a1), (2, .ref a2), (3, .ref a3)]) (by decide +kernel : decode cL_law 1836 = .ok (.iinc 4 6, 3)) rfl g32_ (Nat.le_of_ble_eq_true rfl) rfl ?_
    refine re_goto (pc := 1839) 23 (by decide +kernel : decode cL_law 1839 = .ok (.goto (-1816), 3)) (by decide) ?_
    refine re_sub [1, 2, 3, 4, 0] (lv1 := [(0, .ref 25), (1, .ref a1), (2, .ref a2), (3, .ref a3), (4, .int x31_)]) rfl ?_
    exact hK23 a1 a2 a3 x31_ S24_ _ _ h
  · refine re_icmp_eq_f (pc := 1495) 1836 (by decide +kernel : decode cL_law 1495 = .ok (.if_icmp .eq 341, 3)) (by decide) g30_ ?_
    refine re_iconst (pc := 1498) (0 : Int32) (by decide +kernel : decode cL_law 1498 = .ok (.iconst 0, 1)) (by decide) ?_
    cases h
    exact re_iret (fun ty hty => by cases hty; rfl) (by decide +kernel : decode cL_law 1499 = .ok (.ireturn, 1))
noncomputable def cL_law_1500 (n : Nat) (L : Nat) (xs : Nat → Int32) (K23 : Nat → Nat → Nat → Int32 → rvS → Option (Int32 × rvS)) (S : rvS) (a1 : Nat) (a2 : Nat) (a3 : Nat) (x4 : Int32) : Option (Int32 × rvS) :=
  (rv_vl S a1).bind fun _ =>
  (rv_vl S a2).bind fun _ =>
  (rv_vl S a3).bind fun _ =>
  (rv_ck S 10 a1).bind fun u4_ =>
  rv_bp (fnX12_orders n S a1) fun x7_ S8_ =>
  (rv_ck S8_ 11 a2).bind fun u14_ =>
  rv_bp (fnX13_orders n S8_ a2) fun x17_ S18_ =>
  if x7_ = x17_ then (
    rv_lt (x4 + (6)) fun x25_ =>
    K23 a1 a2 a3 x25_ S18_)
  else (
    some ((0 : Int32), S18_))
set_option maxRecDepth 20000 in
set_option maxHeartbeats 4000000 in
theorem eL_law_1500 (n : Nat) (L : Nat) (xs : Nat → Int32) (K23 : Nat → Nat → Nat → Int32 → rvS → Option (Int32 × rvS)) (hK23 : ∀ (a1 : Nat) (a2 : Nat) (a3 : Nat) (x4 : Int32) (S : rvS) (r : Int32) (S' : rvS), K23 a1 a2 a3 x4 S = some (r, S') → rv_Ev (mL_law L xs) 200 23 [(0, .ref 25), (1, .ref a1), (2, .ref a2), (3, .ref a3), (4, .int x4)] [] S (some (.int r)) S') (S : rvS) (a1 : Nat) (a2 : Nat) (a3 : Nat) (x4 : Int32) (r : Int32) (S' : rvS) (h : cL_law_1500 n L xs K23 S a1 a2 a3 x4 = some (r, S')) : rv_Ev (mL_law L xs) 200 1500 [(0, .ref 25), (1, .ref a1), (2, .ref a2), (3, .ref a3), (4, .int x4)] [] S (some (.int r)) S' := by
  unfold cL_law_1500 at h
  obtain ⟨_, g1_, h⟩ := rv_b_e h
  obtain ⟨_, g2_, h⟩ := rv_b_e h
  obtain ⟨_, g3_, h⟩ := rv_b_e h
  refine re_aloadn (pc := 1500) 1 (by decide +kernel : decode cL_law 1500 = .ok (.aload_n 1, 1)) rfl ?_
  obtain ⟨u4_, g5_, h⟩ := rv_b_e h
  obtain ⟨x7_, S8_, g9_, h⟩ := rv_bp_e h
  have m6_ := metX12_orders n S a1 _ _ g9_
  have z10_ : rv_same S S8_ := m6_.sh rfl
  have o11_ : a1 < 64 + S8_.1.length := by rw [z10_.1]; exact (rv_vl_e g1_)
  have o12_ : a2 < 64 + S8_.1.length := by rw [z10_.1]; exact (rv_vl_e g2_)
  have o13_ : a3 < 64 + S8_.1.length := by rw [z10_.1]; exact (rv_vl_e g3_)
  refine re_cV (pc := 1501) [] m6_ (rv_okl.k z10_) (rv_up.sh z10_) (by decide) (rv_ck_e g5_) ⟨by decide, rfl⟩ (Nat.le_of_ble_eq_true rfl) lVL_174 rfl (by decide +kernel : decode cL_law 1501 = .ok (.invokevirtual 174, 3)) ?_
  refine re_aloadn (pc := 1504) 2 (by decide +kernel : decode cL_law 1504 = .ok (.aload_n 2, 1)) rfl ?_
  obtain ⟨u14_, g15_, h⟩ := rv_b_e h
  obtain ⟨x17_, S18_, g19_, h⟩ := rv_bp_e h
  have m16_ := metX13_orders n S8_ a2 _ _ g19_
  have z20_ : rv_same S8_ S18_ := m16_.sh rfl
  have o21_ : a1 < 64 + S18_.1.length := by rw [z20_.1]; exact o11_
  have o22_ : a2 < 64 + S18_.1.length := by rw [z20_.1]; exact o12_
  have o23_ : a3 < 64 + S18_.1.length := by rw [z20_.1]; exact o13_
  refine re_cV (pc := 1505) [] m16_ (rv_okl.k z20_) (rv_up.sh z20_) (by decide) (rv_ck_e g15_) ⟨by decide, rfl⟩ (Nat.le_of_ble_eq_true rfl) lVL_177 rfl (by decide +kernel : decode cL_law 1505 = .ok (.invokevirtual 177, 3)) ?_
  rcases rv_if_e h with ⟨g24_, h⟩ | ⟨g24_, h⟩
  · refine re_icmp_eq_t (pc := 1508) 1836 (by decide +kernel : decode cL_law 1508 = .ok (.if_icmp .eq 328, 3)) (by decide) g24_ ?_
    obtain ⟨x25_, g26_, h⟩ := rv_lt_e h
    refine re_iinc (pc := 1836) 4 x25_ (lv1 := [(4, .int x25_), (0, .ref 25), (1, .ref a1), (2, .ref a2), (3, .ref a3)]) (by decide +kernel : decode cL_law 1836 = .ok (.iinc 4 6, 3)) rfl g26_ (Nat.le_of_ble_eq_true rfl) rfl ?_
    refine re_goto (pc := 1839) 23 (by decide +kernel : decode cL_law 1839 = .ok (.goto (-1816), 3)) (by decide) ?_
    refine re_sub [1, 2, 3, 4, 0] (lv1 := [(0, .ref 25), (1, .ref a1), (2, .ref a2), (3, .ref a3), (4, .int x25_)]) rfl ?_
    exact hK23 a1 a2 a3 x25_ S18_ _ _ h
  · refine re_icmp_eq_f (pc := 1508) 1836 (by decide +kernel : decode cL_law 1508 = .ok (.if_icmp .eq 328, 3)) (by decide) g24_ ?_
    refine re_iconst (pc := 1511) (0 : Int32) (by decide +kernel : decode cL_law 1511 = .ok (.iconst 0, 1)) (by decide) ?_
    cases h
    exact re_iret (fun ty hty => by cases hty; rfl) (by decide +kernel : decode cL_law 1512 = .ok (.ireturn, 1))
noncomputable def cL_law_1513 (n : Nat) (L : Nat) (xs : Nat → Int32) (K23 : Nat → Nat → Nat → Int32 → rvS → Option (Int32 × rvS)) (S : rvS) (a1 : Nat) (a2 : Nat) (a3 : Nat) (x4 : Int32) : Option (Int32 × rvS) :=
  (rv_vl S a1).bind fun _ =>
  (rv_vl S a2).bind fun _ =>
  (rv_vl S a3).bind fun _ =>
  (rv_ix L (x4 + (1 : Int32))).bind fun j4_ =>
  (rv_ck S 10 a1).bind fun u7_ =>
  (fnX12_orderAt n S a1 (xs j4_)).bind fun x10_ =>
  (rv_ix L (x4 + (1 : Int32))).bind fun j12_ =>
  (rv_ck S 11 a2).bind fun u15_ =>
  rv_bp (fnX13_orderAt n S a2 (xs j12_)) fun x18_ S19_ =>
  if x10_ = x18_ then (
    rv_lt (x4 + (6)) fun x26_ =>
    K23 a1 a2 a3 x26_ S19_)
  else (
    some ((0 : Int32), S19_))
set_option maxRecDepth 20000 in
set_option maxHeartbeats 4000000 in
theorem eL_law_1513 (n : Nat) (L : Nat) (xs : Nat → Int32) (K23 : Nat → Nat → Nat → Int32 → rvS → Option (Int32 × rvS)) (hK23 : ∀ (a1 : Nat) (a2 : Nat) (a3 : Nat) (x4 : Int32) (S : rvS) (r : Int32) (S' : rvS), K23 a1 a2 a3 x4 S = some (r, S') → rv_Ev (mL_law L xs) 200 23 [(0, .ref 25), (1, .ref a1), (2, .ref a2), (3, .ref a3), (4, .int x4)] [] S (some (.int r)) S') (S : rvS) (a1 : Nat) (a2 : Nat) (a3 : Nat) (x4 : Int32) (r : Int32) (S' : rvS) (h : cL_law_1513 n L xs K23 S a1 a2 a3 x4 = some (r, S')) : rv_Ev (mL_law L xs) 200 1513 [(0, .ref 25), (1, .ref a1), (2, .ref a2), (3, .ref a3), (4, .int x4)] [] S (some (.int r)) S' := by
  unfold cL_law_1513 at h
  obtain ⟨_, g1_, h⟩ := rv_b_e h
  obtain ⟨_, g2_, h⟩ := rv_b_e h
  obtain ⟨_, g3_, h⟩ := rv_b_e h
  refine re_aloadn (pc := 1513) 1 (by decide +kernel : decode cL_law 1513 = .ok (.aload_n 1, 1)) rfl ?_
  refine re_aloadn (pc := 1514) 0 (by decide +kernel : decode cL_law 1514 = .ok (.aload_n 0, 1)) rfl ?_
  refine re_iload (pc := 1515) 4 (by decide +kernel : decode cL_law 1515 = .ok (.iload 4, 2)) rfl ?_
  refine re_iconst (pc := 1517) (1 : Int32) (by decide +kernel : decode cL_law 1517 = .ok (.iconst 1, 1)) (by decide) ?_
  refine re_iadd (pc := 1518) (by decide +kernel : decode cL_law 1518 = .ok (.iadd, 1)) ?_
  obtain ⟨j4_, g5_, h⟩ := rv_b_e h
  have z6_ := rv_ix_e g5_
  refine re_sld (pc := 1519) (L := L) (xs := xs) rfl z6_.1 (by decide +kernel : decode cL_law 1519 = .ok (.iaload, 1)) ?_
  refine re_nI (congrArg xs z6_.2.symm) ?_
  obtain ⟨u7_, g8_, h⟩ := rv_b_e h
  obtain ⟨x10_, g11_, h⟩ := rv_b_e h
  have m9_ := metX12_orderAt n S a1 (xs j4_) _ g11_
  refine re_cV (pc := 1520) [.int (xs j4_)] m9_ (rv_okl.k ⟨rfl, rfl⟩) (rv_up.rf _ _) (by decide) (rv_ck_e g8_) ⟨by decide, rfl⟩ (Nat.le_of_ble_eq_true rfl) lVL_178 rfl (by decide +kernel : decode cL_law 1520 = .ok (.invokevirtual 178, 3)) ?_
  refine re_aloadn (pc := 1523) 2 (by decide +kernel : decode cL_law 1523 = .ok (.aload_n 2, 1)) rfl ?_
  refine re_aloadn (pc := 1524) 0 (by decide +kernel : decode cL_law 1524 = .ok (.aload_n 0, 1)) rfl ?_
  refine re_iload (pc := 1525) 4 (by decide +kernel : decode cL_law 1525 = .ok (.iload 4, 2)) rfl ?_
  refine re_iconst (pc := 1527) (1 : Int32) (by decide +kernel : decode cL_law 1527 = .ok (.iconst 1, 1)) (by decide) ?_
  refine re_iadd (pc := 1528) (by decide +kernel : decode cL_law 1528 = .ok (.iadd, 1)) ?_
  obtain ⟨j12_, g13_, h⟩ := rv_b_e h
  have z14_ := rv_ix_e g13_
  refine re_sld (pc := 1529) (L := L) (xs := xs) rfl z14_.1 (by decide +kernel : decode cL_law 1529 = .ok (.iaload, 1)) ?_
  refine re_nI (congrArg xs z14_.2.symm) ?_
  obtain ⟨u15_, g16_, h⟩ := rv_b_e h
  obtain ⟨x18_, S19_, g20_, h⟩ := rv_bp_e h
  have m17_ := metX13_orderAt n S a2 (xs j12_) _ _ g20_
  have z21_ : rv_same S S19_ := m17_.sh rfl
  have o22_ : a1 < 64 + S19_.1.length := by rw [z21_.1]; exact (rv_vl_e g1_)
  have o23_ : a2 < 64 + S19_.1.length := by rw [z21_.1]; exact (rv_vl_e g2_)
  have o24_ : a3 < 64 + S19_.1.length := by rw [z21_.1]; exact (rv_vl_e g3_)
  refine re_cV (pc := 1530) [.int (xs j12_)] m17_ (rv_okl.k z21_) (rv_up.sh z21_) (by decide) (rv_ck_e g16_) ⟨by decide, rfl⟩ (Nat.le_of_ble_eq_true rfl) lVL_181 rfl (by decide +kernel : decode cL_law 1530 = .ok (.invokevirtual 181, 3)) ?_
  rcases rv_if_e h with ⟨g25_, h⟩ | ⟨g25_, h⟩
  · refine re_icmp_eq_t (pc := 1533) 1836 (by decide +kernel : decode cL_law 1533 = .ok (.if_icmp .eq 303, 3)) (by decide) g25_ ?_
    obtain ⟨x26_, g27_, h⟩ := rv_lt_e h
    refine re_iinc (pc := 1836) 4 x26_ (lv1 := [(4, .int x26_), (0, .ref 25), (1, .ref a1), (2, .ref a2), (3, .ref a3)]) (by decide +kernel : decode cL_law 1836 = .ok (.iinc 4 6, 3)) rfl g27_ (Nat.le_of_ble_eq_true rfl) rfl ?_
    refine re_goto (pc := 1839) 23 (by decide +kernel : decode cL_law 1839 = .ok (.goto (-1816), 3)) (by decide) ?_
    refine re_sub [1, 2, 3, 4, 0] (lv1 := [(0, .ref 25), (1, .ref a1), (2, .ref a2), (3, .ref a3), (4, .int x26_)]) rfl ?_
    exact hK23 a1 a2 a3 x26_ S19_ _ _ h
  · refine re_icmp_eq_f (pc := 1533) 1836 (by decide +kernel : decode cL_law 1533 = .ok (.if_icmp .eq 303, 3)) (by decide) g25_ ?_
    refine re_iconst (pc := 1536) (0 : Int32) (by decide +kernel : decode cL_law 1536 = .ok (.iconst 0, 1)) (by decide) ?_
    cases h
    exact re_iret (fun ty hty => by cases hty; rfl) (by decide +kernel : decode cL_law 1537 = .ok (.ireturn, 1))
noncomputable def cL_law_1538 (n : Nat) (L : Nat) (xs : Nat → Int32) (K23 : Nat → Nat → Nat → Int32 → rvS → Option (Int32 × rvS)) (S : rvS) (a1 : Nat) (a2 : Nat) (a3 : Nat) (x4 : Int32) : Option (Int32 × rvS) :=
  (rv_vl S a1).bind fun _ =>
  (rv_vl S a2).bind fun _ =>
  (rv_vl S a3).bind fun _ =>
  (rv_ix L (x4 + (1 : Int32))).bind fun j4_ =>
  (rv_ix L (x4 + (2 : Int32))).bind fun j7_ =>
  (rv_ix L (x4 + (3 : Int32))).bind fun j10_ =>
  (rv_ck S 10 a1).bind fun u13_ =>
  rv_bp (fnX12_ways n S a1 (xs j4_) (xs j7_) (xs j10_)) fun x16_ S17_ =>
  (rv_ix L (x4 + (1 : Int32))).bind fun j23_ =>
  (rv_ix L (x4 + (2 : Int32))).bind fun j26_ =>
  (rv_ix L (x4 + (3 : Int32))).bind fun j29_ =>
  (rv_ck S17_ 11 a2).bind fun u32_ =>
  rv_bp (fnX13_ways n S17_ a2 (xs j23_) (xs j26_) (xs j29_)) fun x35_ S36_ =>
  if x16_ = x35_ then (
    rv_lt (x4 + (6)) fun x43_ =>
    K23 a1 a2 a3 x43_ S36_)
  else (
    some ((0 : Int32), S36_))
set_option maxRecDepth 20000 in
set_option maxHeartbeats 4000000 in
theorem eL_law_1538 (n : Nat) (L : Nat) (xs : Nat → Int32) (K23 : Nat → Nat → Nat → Int32 → rvS → Option (Int32 × rvS)) (hK23 : ∀ (a1 : Nat) (a2 : Nat) (a3 : Nat) (x4 : Int32) (S : rvS) (r : Int32) (S' : rvS), K23 a1 a2 a3 x4 S = some (r, S') → rv_Ev (mL_law L xs) 200 23 [(0, .ref 25), (1, .ref a1), (2, .ref a2), (3, .ref a3), (4, .int x4)] [] S (some (.int r)) S') (S : rvS) (a1 : Nat) (a2 : Nat) (a3 : Nat) (x4 : Int32) (r : Int32) (S' : rvS) (h : cL_law_1538 n L xs K23 S a1 a2 a3 x4 = some (r, S')) : rv_Ev (mL_law L xs) 200 1538 [(0, .ref 25), (1, .ref a1), (2, .ref a2), (3, .ref a3), (4, .int x4)] [] S (some (.int r)) S' := by
  unfold cL_law_1538 at h
  obtain ⟨_, g1_, h⟩ := rv_b_e h
  obtain ⟨_, g2_, h⟩ := rv_b_e h
  obtain ⟨_, g3_, h⟩ := rv_b_e h
  refine re_aloadn (pc := 1538) 1 (by decide +kernel : decode cL_law 1538 = .ok (.aload_n 1, 1)) rfl ?_
  refine re_aloadn (pc := 1539) 0 (by decide +kernel : decode cL_law 1539 = .ok (.aload_n 0, 1)) rfl ?_
  refine re_iload (pc := 1540) 4 (by decide +kernel : decode cL_law 1540 = .ok (.iload 4, 2)) rfl ?_
  refine re_iconst (pc := 1542) (1 : Int32) (by decide +kernel : decode cL_law 1542 = .ok (.iconst 1, 1)) (by decide) ?_
  refine re_iadd (pc := 1543) (by decide +kernel : decode cL_law 1543 = .ok (.iadd, 1)) ?_
  obtain ⟨j4_, g5_, h⟩ := rv_b_e h
  have z6_ := rv_ix_e g5_
  refine re_sld (pc := 1544) (L := L) (xs := xs) rfl z6_.1 (by decide +kernel : decode cL_law 1544 = .ok (.iaload, 1)) ?_
  refine re_nI (congrArg xs z6_.2.symm) ?_
  refine re_aloadn (pc := 1545) 0 (by decide +kernel : decode cL_law 1545 = .ok (.aload_n 0, 1)) rfl ?_
  refine re_iload (pc := 1546) 4 (by decide +kernel : decode cL_law 1546 = .ok (.iload 4, 2)) rfl ?_
  refine re_iconst (pc := 1548) (2 : Int32) (by decide +kernel : decode cL_law 1548 = .ok (.iconst 2, 1)) (by decide) ?_
  refine re_iadd (pc := 1549) (by decide +kernel : decode cL_law 1549 = .ok (.iadd, 1)) ?_
  obtain ⟨j7_, g8_, h⟩ := rv_b_e h
  have z9_ := rv_ix_e g8_
  refine re_sld (pc := 1550) (L := L) (xs := xs) rfl z9_.1 (by decide +kernel : decode cL_law 1550 = .ok (.iaload, 1)) ?_
  refine re_nI (congrArg xs z9_.2.symm) ?_
  refine re_aloadn (pc := 1551) 0 (by decide +kernel : decode cL_law 1551 = .ok (.aload_n 0, 1)) rfl ?_
  refine re_iload (pc := 1552) 4 (by decide +kernel : decode cL_law 1552 = .ok (.iload 4, 2)) rfl ?_
  refine re_iconst (pc := 1554) (3 : Int32) (by decide +kernel : decode cL_law 1554 = .ok (.iconst 3, 1)) (by decide) ?_
  refine re_iadd (pc := 1555) (by decide +kernel : decode cL_law 1555 = .ok (.iadd, 1)) ?_
  obtain ⟨j10_, g11_, h⟩ := rv_b_e h
  have z12_ := rv_ix_e g11_
  refine re_sld (pc := 1556) (L := L) (xs := xs) rfl z12_.1 (by decide +kernel : decode cL_law 1556 = .ok (.iaload, 1)) ?_
  refine re_nI (congrArg xs z12_.2.symm) ?_
  obtain ⟨u13_, g14_, h⟩ := rv_b_e h
  obtain ⟨x16_, S17_, g18_, h⟩ := rv_bp_e h
  have m15_ := metX12_ways n S a1 (xs j4_) (xs j7_) (xs j10_) _ _ g18_
  have z19_ : rv_same S S17_ := m15_.sh rfl
  have o20_ : a1 < 64 + S17_.1.length := by rw [z19_.1]; exact (rv_vl_e g1_)
  have o21_ : a2 < 64 + S17_.1.length := by rw [z19_.1]; exact (rv_vl_e g2_)
  have o22_ : a3 < 64 + S17_.1.length := by rw [z19_.1]; exact (rv_vl_e g3_)
  refine re_cV (pc := 1557) [.int (xs j4_), .int (xs j7_), .int (xs j10_)] m15_ (rv_okl.k z19_) (rv_up.sh z19_) (by decide) (rv_ck_e g14_) ⟨by decide, rfl⟩ (Nat.le_of_ble_eq_true rfl) lVL_182 rfl (by decide +kernel : decode cL_law 1557 = .ok (.invokevirtual 182, 3)) ?_
  refine re_aloadn (pc := 1560) 2 (by decide +kernel : decode cL_law 1560 = .ok (.aload_n 2, 1)) rfl ?_
  refine re_aloadn (pc := 1561) 0 (by decide +kernel : decode cL_law 1561 = .ok (.aload_n 0, 1)) rfl ?_
  refine re_iload (pc := 1562) 4 (by decide +kernel : decode cL_law 1562 = .ok (.iload 4, 2)) rfl ?_
  refine re_iconst (pc := 1564) (1 : Int32) (by decide +kernel : decode cL_law 1564 = .ok (.iconst 1, 1)) (by decide) ?_
  refine re_iadd (pc := 1565) (by decide +kernel : decode cL_law 1565 = .ok (.iadd, 1)) ?_
  obtain ⟨j23_, g24_, h⟩ := rv_b_e h
  have z25_ := rv_ix_e g24_
  refine re_sld (pc := 1566) (L := L) (xs := xs) rfl z25_.1 (by decide +kernel : decode cL_law 1566 = .ok (.iaload, 1)) ?_
  refine re_nI (congrArg xs z25_.2.symm) ?_
  refine re_aloadn (pc := 1567) 0 (by decide +kernel : decode cL_law 1567 = .ok (.aload_n 0, 1)) rfl ?_
  refine re_iload (pc := 1568) 4 (by decide +kernel : decode cL_law 1568 = .ok (.iload 4, 2)) rfl ?_
  refine re_iconst (pc := 1570) (2 : Int32) (by decide +kernel : decode cL_law 1570 = .ok (.iconst 2, 1)) (by decide) ?_
  refine re_iadd (pc := 1571) (by decide +kernel : decode cL_law 1571 = .ok (.iadd, 1)) ?_
  obtain ⟨j26_, g27_, h⟩ := rv_b_e h
  have z28_ := rv_ix_e g27_
  refine re_sld (pc := 1572) (L := L) (xs := xs) rfl z28_.1 (by decide +kernel : decode cL_law 1572 = .ok (.iaload, 1)) ?_
  refine re_nI (congrArg xs z28_.2.symm) ?_
  refine re_aloadn (pc := 1573) 0 (by decide +kernel : decode cL_law 1573 = .ok (.aload_n 0, 1)) rfl ?_
  refine re_iload (pc := 1574) 4 (by decide +kernel : decode cL_law 1574 = .ok (.iload 4, 2)) rfl ?_
  refine re_iconst (pc := 1576) (3 : Int32) (by decide +kernel : decode cL_law 1576 = .ok (.iconst 3, 1)) (by decide) ?_
  refine re_iadd (pc := 1577) (by decide +kernel : decode cL_law 1577 = .ok (.iadd, 1)) ?_
  obtain ⟨j29_, g30_, h⟩ := rv_b_e h
  have z31_ := rv_ix_e g30_
  refine re_sld (pc := 1578) (L := L) (xs := xs) rfl z31_.1 (by decide +kernel : decode cL_law 1578 = .ok (.iaload, 1)) ?_
  refine re_nI (congrArg xs z31_.2.symm) ?_
  obtain ⟨u32_, g33_, h⟩ := rv_b_e h
  obtain ⟨x35_, S36_, g37_, h⟩ := rv_bp_e h
  have m34_ := metX13_ways n S17_ a2 (xs j23_) (xs j26_) (xs j29_) _ _ g37_
  have z38_ : rv_same S17_ S36_ := m34_.sh rfl
  have o39_ : a1 < 64 + S36_.1.length := by rw [z38_.1]; exact o20_
  have o40_ : a2 < 64 + S36_.1.length := by rw [z38_.1]; exact o21_
  have o41_ : a3 < 64 + S36_.1.length := by rw [z38_.1]; exact o22_
  refine re_cV (pc := 1579) [.int (xs j23_), .int (xs j26_), .int (xs j29_)] m34_ (rv_okl.k z38_) (rv_up.sh z38_) (by decide) (rv_ck_e g33_) ⟨by decide, rfl⟩ (Nat.le_of_ble_eq_true rfl) lVL_185 rfl (by decide +kernel : decode cL_law 1579 = .ok (.invokevirtual 185, 3)) ?_
  rcases rv_if_e h with ⟨g42_, h⟩ | ⟨g42_, h⟩
  · refine re_icmp_eq_t (pc := 1582) 1836 (by decide +kernel : decode cL_law 1582 = .ok (.if_icmp .eq 254, 3)) (by decide) g42_ ?_
    obtain ⟨x43_, g44_, h⟩ := rv_lt_e h
    refine re_iinc (pc := 1836) 4 x43_ (lv1 := [(4, .int x43_), (0, .ref 25), (1, .ref a1), (2, .ref a2), (3, .ref a3)]) (by decide +kernel : decode cL_law 1836 = .ok (.iinc 4 6, 3)) rfl g44_ (Nat.le_of_ble_eq_true rfl) rfl ?_
    refine re_goto (pc := 1839) 23 (by decide +kernel : decode cL_law 1839 = .ok (.goto (-1816), 3)) (by decide) ?_
    refine re_sub [1, 2, 3, 4, 0] (lv1 := [(0, .ref 25), (1, .ref a1), (2, .ref a2), (3, .ref a3), (4, .int x43_)]) rfl ?_
    exact hK23 a1 a2 a3 x43_ S36_ _ _ h
  · refine re_icmp_eq_f (pc := 1582) 1836 (by decide +kernel : decode cL_law 1582 = .ok (.if_icmp .eq 254, 3)) (by decide) g42_ ?_
    refine re_iconst (pc := 1585) (0 : Int32) (by decide +kernel : decode cL_law 1585 = .ok (.iconst 0, 1)) (by decide) ?_
    cases h
    exact re_iret (fun ty hty => by cases hty; rfl) (by decide +kernel : decode cL_law 1586 = .ok (.ireturn, 1))
noncomputable def cL_law_1587 (n : Nat) (L : Nat) (xs : Nat → Int32) (K23 : Nat → Nat → Nat → Int32 → rvS → Option (Int32 × rvS)) (S : rvS) (a1 : Nat) (a2 : Nat) (a3 : Nat) (x4 : Int32) : Option (Int32 × rvS) :=
  (rv_vl S a1).bind fun _ =>
  (rv_vl S a2).bind fun _ =>
  (rv_vl S a3).bind fun _ =>
  (rv_ix L (x4 + (1 : Int32))).bind fun j4_ =>
  (rv_ck S 10 a1).bind fun u7_ =>
  (fnX12_had n S a1 (xs j4_)).bind fun x10_ =>
  (rv_ix L (x4 + (1 : Int32))).bind fun j12_ =>
  (rv_ck S 11 a2).bind fun u15_ =>
  rv_bp (fnX13_had n S a2 (xs j12_)) fun x18_ S19_ =>
  if x10_ = x18_ then (
    rv_lt (x4 + (6)) fun x26_ =>
    K23 a1 a2 a3 x26_ S19_)
  else (
    some ((0 : Int32), S19_))
set_option maxRecDepth 20000 in
set_option maxHeartbeats 4000000 in
theorem eL_law_1587 (n : Nat) (L : Nat) (xs : Nat → Int32) (K23 : Nat → Nat → Nat → Int32 → rvS → Option (Int32 × rvS)) (hK23 : ∀ (a1 : Nat) (a2 : Nat) (a3 : Nat) (x4 : Int32) (S : rvS) (r : Int32) (S' : rvS), K23 a1 a2 a3 x4 S = some (r, S') → rv_Ev (mL_law L xs) 200 23 [(0, .ref 25), (1, .ref a1), (2, .ref a2), (3, .ref a3), (4, .int x4)] [] S (some (.int r)) S') (S : rvS) (a1 : Nat) (a2 : Nat) (a3 : Nat) (x4 : Int32) (r : Int32) (S' : rvS) (h : cL_law_1587 n L xs K23 S a1 a2 a3 x4 = some (r, S')) : rv_Ev (mL_law L xs) 200 1587 [(0, .ref 25), (1, .ref a1), (2, .ref a2), (3, .ref a3), (4, .int x4)] [] S (some (.int r)) S' := by
  unfold cL_law_1587 at h
  obtain ⟨_, g1_, h⟩ := rv_b_e h
  obtain ⟨_, g2_, h⟩ := rv_b_e h
  obtain ⟨_, g3_, h⟩ := rv_b_e h
  refine re_aloadn (pc := 1587) 1 (by decide +kernel : decode cL_law 1587 = .ok (.aload_n 1, 1)) rfl ?_
  refine re_aloadn (pc := 1588) 0 (by decide +kernel : decode cL_law 1588 = .ok (.aload_n 0, 1)) rfl ?_
  refine re_iload (pc := 1589) 4 (by decide +kernel : decode cL_law 1589 = .ok (.iload 4, 2)) rfl ?_
  refine re_iconst (pc := 1591) (1 : Int32) (by decide +kernel : decode cL_law 1591 = .ok (.iconst 1, 1)) (by decide) ?_
  refine re_iadd (pc := 1592) (by decide +kernel : decode cL_law 1592 = .ok (.iadd, 1)) ?_
  obtain ⟨j4_, g5_, h⟩ := rv_b_e h
  have z6_ := rv_ix_e g5_
  refine re_sld (pc := 1593) (L := L) (xs := xs) rfl z6_.1 (by decide +kernel : decode cL_law 1593 = .ok (.iaload, 1)) ?_
  refine re_nI (congrArg xs z6_.2.symm) ?_
  obtain ⟨u7_, g8_, h⟩ := rv_b_e h
  obtain ⟨x10_, g11_, h⟩ := rv_b_e h
  have m9_ := metX12_had n S a1 (xs j4_) _ g11_
  refine re_cV (pc := 1594) [.int (xs j4_)] m9_ (rv_okl.k ⟨rfl, rfl⟩) (rv_up.rf _ _) (by decide) (rv_ck_e g8_) ⟨by decide, rfl⟩ (Nat.le_of_ble_eq_true rfl) lVL_186 rfl (by decide +kernel : decode cL_law 1594 = .ok (.invokevirtual 186, 3)) ?_
  refine re_aloadn (pc := 1597) 2 (by decide +kernel : decode cL_law 1597 = .ok (.aload_n 2, 1)) rfl ?_
  refine re_aloadn (pc := 1598) 0 (by decide +kernel : decode cL_law 1598 = .ok (.aload_n 0, 1)) rfl ?_
  refine re_iload (pc := 1599) 4 (by decide +kernel : decode cL_law 1599 = .ok (.iload 4, 2)) rfl ?_
  refine re_iconst (pc := 1601) (1 : Int32) (by decide +kernel : decode cL_law 1601 = .ok (.iconst 1, 1)) (by decide) ?_
  refine re_iadd (pc := 1602) (by decide +kernel : decode cL_law 1602 = .ok (.iadd, 1)) ?_
  obtain ⟨j12_, g13_, h⟩ := rv_b_e h
  have z14_ := rv_ix_e g13_
  refine re_sld (pc := 1603) (L := L) (xs := xs) rfl z14_.1 (by decide +kernel : decode cL_law 1603 = .ok (.iaload, 1)) ?_
  refine re_nI (congrArg xs z14_.2.symm) ?_
  obtain ⟨u15_, g16_, h⟩ := rv_b_e h
  obtain ⟨x18_, S19_, g20_, h⟩ := rv_bp_e h
  have m17_ := metX13_had n S a2 (xs j12_) _ _ g20_
  have z21_ : rv_same S S19_ := m17_.sh rfl
  have o22_ : a1 < 64 + S19_.1.length := by rw [z21_.1]; exact (rv_vl_e g1_)
  have o23_ : a2 < 64 + S19_.1.length := by rw [z21_.1]; exact (rv_vl_e g2_)
  have o24_ : a3 < 64 + S19_.1.length := by rw [z21_.1]; exact (rv_vl_e g3_)
  refine re_cV (pc := 1604) [.int (xs j12_)] m17_ (rv_okl.k z21_) (rv_up.sh z21_) (by decide) (rv_ck_e g16_) ⟨by decide, rfl⟩ (Nat.le_of_ble_eq_true rfl) lVL_189 rfl (by decide +kernel : decode cL_law 1604 = .ok (.invokevirtual 189, 3)) ?_
  rcases rv_if_e h with ⟨g25_, h⟩ | ⟨g25_, h⟩
  · refine re_icmp_eq_t (pc := 1607) 1836 (by decide +kernel : decode cL_law 1607 = .ok (.if_icmp .eq 229, 3)) (by decide) g25_ ?_
    obtain ⟨x26_, g27_, h⟩ := rv_lt_e h
    refine re_iinc (pc := 1836) 4 x26_ (lv1 := [(4, .int x26_), (0, .ref 25), (1, .ref a1), (2, .ref a2), (3, .ref a3)]) (by decide +kernel : decode cL_law 1836 = .ok (.iinc 4 6, 3)) rfl g27_ (Nat.le_of_ble_eq_true rfl) rfl ?_
    refine re_goto (pc := 1839) 23 (by decide +kernel : decode cL_law 1839 = .ok (.goto (-1816), 3)) (by decide) ?_
    refine re_sub [1, 2, 3, 4, 0] (lv1 := [(0, .ref 25), (1, .ref a1), (2, .ref a2), (3, .ref a3), (4, .int x26_)]) rfl ?_
    exact hK23 a1 a2 a3 x26_ S19_ _ _ h
  · refine re_icmp_eq_f (pc := 1607) 1836 (by decide +kernel : decode cL_law 1607 = .ok (.if_icmp .eq 229, 3)) (by decide) g25_ ?_
    refine re_iconst (pc := 1610) (0 : Int32) (by decide +kernel : decode cL_law 1610 = .ok (.iconst 0, 1)) (by decide) ?_
    cases h
    exact re_iret (fun ty hty => by cases hty; rfl) (by decide +kernel : decode cL_law 1611 = .ok (.ireturn, 1))
noncomputable def cL_law_1612 (n : Nat) (L : Nat) (xs : Nat → Int32) (K23 : Nat → Nat → Nat → Int32 → rvS → Option (Int32 × rvS)) (S : rvS) (a1 : Nat) (a2 : Nat) (a3 : Nat) (x4 : Int32) : Option (Int32 × rvS) :=
  (rv_vl S a1).bind fun _ =>
  (rv_vl S a2).bind fun _ =>
  (rv_vl S a3).bind fun _ =>
  (rv_ix L (x4 + (1 : Int32))).bind fun j4_ =>
  (rv_ix L (x4 + (2 : Int32))).bind fun j7_ =>
  (rv_ck S 10 a1).bind fun u10_ =>
  rv_bp (fnX12_days n S a1 (xs j4_) (xs j7_)) fun x13_ S14_ =>
  (rv_ix L (x4 + (1 : Int32))).bind fun j20_ =>
  (rv_ix L (x4 + (2 : Int32))).bind fun j23_ =>
  (rv_ck S14_ 11 a2).bind fun u26_ =>
  rv_bp (fnX13_days n S14_ a2 (xs j20_) (xs j23_)) fun x29_ S30_ =>
  if x13_ = x29_ then (
    rv_lt (x4 + (6)) fun x37_ =>
    K23 a1 a2 a3 x37_ S30_)
  else (
    some ((0 : Int32), S30_))
set_option maxRecDepth 20000 in
set_option maxHeartbeats 4000000 in
theorem eL_law_1612 (n : Nat) (L : Nat) (xs : Nat → Int32) (K23 : Nat → Nat → Nat → Int32 → rvS → Option (Int32 × rvS)) (hK23 : ∀ (a1 : Nat) (a2 : Nat) (a3 : Nat) (x4 : Int32) (S : rvS) (r : Int32) (S' : rvS), K23 a1 a2 a3 x4 S = some (r, S') → rv_Ev (mL_law L xs) 200 23 [(0, .ref 25), (1, .ref a1), (2, .ref a2), (3, .ref a3), (4, .int x4)] [] S (some (.int r)) S') (S : rvS) (a1 : Nat) (a2 : Nat) (a3 : Nat) (x4 : Int32) (r : Int32) (S' : rvS) (h : cL_law_1612 n L xs K23 S a1 a2 a3 x4 = some (r, S')) : rv_Ev (mL_law L xs) 200 1612 [(0, .ref 25), (1, .ref a1), (2, .ref a2), (3, .ref a3), (4, .int x4)] [] S (some (.int r)) S' := by
  unfold cL_law_1612 at h
  obtain ⟨_, g1_, h⟩ := rv_b_e h
  obtain ⟨_, g2_, h⟩ := rv_b_e h
  obtain ⟨_, g3_, h⟩ := rv_b_e h
  refine re_aloadn (pc := 1612) 1 (by decide +kernel : decode cL_law 1612 = .ok (.aload_n 1, 1)) rfl ?_
  refine re_aloadn (pc := 1613) 0 (by decide +kernel : decode cL_law 1613 = .ok (.aload_n 0, 1)) rfl ?_
  refine re_iload (pc := 1614) 4 (by decide +kernel : decode cL_law 1614 = .ok (.iload 4, 2)) rfl ?_
  refine re_iconst (pc := 1616) (1 : Int32) (by decide +kernel : decode cL_law 1616 = .ok (.iconst 1, 1)) (by decide) ?_
  refine re_iadd (pc := 1617) (by decide +kernel : decode cL_law 1617 = .ok (.iadd, 1)) ?_
  obtain ⟨j4_, g5_, h⟩ := rv_b_e h
  have z6_ := rv_ix_e g5_
  refine re_sld (pc := 1618) (L := L) (xs := xs) rfl z6_.1 (by decide +kernel : decode cL_law 1618 = .ok (.iaload, 1)) ?_
  refine re_nI (congrArg xs z6_.2.symm) ?_
  refine re_aloadn (pc := 1619) 0 (by decide +kernel : decode cL_law 1619 = .ok (.aload_n 0, 1)) rfl ?_
  refine re_iload (pc := 1620) 4 (by decide +kernel : decode cL_law 1620 = .ok (.iload 4, 2)) rfl ?_
  refine re_iconst (pc := 1622) (2 : Int32) (by decide +kernel : decode cL_law 1622 = .ok (.iconst 2, 1)) (by decide) ?_
  refine re_iadd (pc := 1623) (by decide +kernel : decode cL_law 1623 = .ok (.iadd, 1)) ?_
  obtain ⟨j7_, g8_, h⟩ := rv_b_e h
  have z9_ := rv_ix_e g8_
  refine re_sld (pc := 1624) (L := L) (xs := xs) rfl z9_.1 (by decide +kernel : decode cL_law 1624 = .ok (.iaload, 1)) ?_
  refine re_nI (congrArg xs z9_.2.symm) ?_
  obtain ⟨u10_, g11_, h⟩ := rv_b_e h
  obtain ⟨x13_, S14_, g15_, h⟩ := rv_bp_e h
  have m12_ := metX12_days n S a1 (xs j4_) (xs j7_) _ _ g15_
  have z16_ : rv_same S S14_ := m12_.sh rfl
  have o17_ : a1 < 64 + S14_.1.length := by rw [z16_.1]; exact (rv_vl_e g1_)
  have o18_ : a2 < 64 + S14_.1.length := by rw [z16_.1]; exact (rv_vl_e g2_)
  have o19_ : a3 < 64 + S14_.1.length := by rw [z16_.1]; exact (rv_vl_e g3_)
  refine re_cV (pc := 1625) [.int (xs j4_), .int (xs j7_)] m12_ (rv_okl.k z16_) (rv_up.sh z16_) (by decide) (rv_ck_e g11_) ⟨by decide, rfl⟩ (Nat.le_of_ble_eq_true rfl) lVL_190 rfl (by decide +kernel : decode cL_law 1625 = .ok (.invokevirtual 190, 3)) ?_
  refine re_aloadn (pc := 1628) 2 (by decide +kernel : decode cL_law 1628 = .ok (.aload_n 2, 1)) rfl ?_
  refine re_aloadn (pc := 1629) 0 (by decide +kernel : decode cL_law 1629 = .ok (.aload_n 0, 1)) rfl ?_
  refine re_iload (pc := 1630) 4 (by decide +kernel : decode cL_law 1630 = .ok (.iload 4, 2)) rfl ?_
  refine re_iconst (pc := 1632) (1 : Int32) (by decide +kernel : decode cL_law 1632 = .ok (.iconst 1, 1)) (by decide) ?_
  refine re_iadd (pc := 1633) (by decide +kernel : decode cL_law 1633 = .ok (.iadd, 1)) ?_
  obtain ⟨j20_, g21_, h⟩ := rv_b_e h
  have z22_ := rv_ix_e g21_
  refine re_sld (pc := 1634) (L := L) (xs := xs) rfl z22_.1 (by decide +kernel : decode cL_law 1634 = .ok (.iaload, 1)) ?_
  refine re_nI (congrArg xs z22_.2.symm) ?_
  refine re_aloadn (pc := 1635) 0 (by decide +kernel : decode cL_law 1635 = .ok (.aload_n 0, 1)) rfl ?_
  refine re_iload (pc := 1636) 4 (by decide +kernel : decode cL_law 1636 = .ok (.iload 4, 2)) rfl ?_
  refine re_iconst (pc := 1638) (2 : Int32) (by decide +kernel : decode cL_law 1638 = .ok (.iconst 2, 1)) (by decide) ?_
  refine re_iadd (pc := 1639) (by decide +kernel : decode cL_law 1639 = .ok (.iadd, 1)) ?_
  obtain ⟨j23_, g24_, h⟩ := rv_b_e h
  have z25_ := rv_ix_e g24_
  refine re_sld (pc := 1640) (L := L) (xs := xs) rfl z25_.1 (by decide +kernel : decode cL_law 1640 = .ok (.iaload, 1)) ?_
  refine re_nI (congrArg xs z25_.2.symm) ?_
  obtain ⟨u26_, g27_, h⟩ := rv_b_e h
  obtain ⟨x29_, S30_, g31_, h⟩ := rv_bp_e h
  have m28_ := metX13_days n S14_ a2 (xs j20_) (xs j23_) _ _ g31_
  have z32_ : rv_same S14_ S30_ := m28_.sh rfl
  have o33_ : a1 < 64 + S30_.1.length := by rw [z32_.1]; exact o17_
  have o34_ : a2 < 64 + S30_.1.length := by rw [z32_.1]; exact o18_
  have o35_ : a3 < 64 + S30_.1.length := by rw [z32_.1]; exact o19_
  refine re_cV (pc := 1641) [.int (xs j20_), .int (xs j23_)] m28_ (rv_okl.k z32_) (rv_up.sh z32_) (by decide) (rv_ck_e g27_) ⟨by decide, rfl⟩ (Nat.le_of_ble_eq_true rfl) lVL_193 rfl (by decide +kernel : decode cL_law 1641 = .ok (.invokevirtual 193, 3)) ?_
  rcases rv_if_e h with ⟨g36_, h⟩ | ⟨g36_, h⟩
  · refine re_icmp_eq_t (pc := 1644) 1836 (by decide +kernel : decode cL_law 1644 = .ok (.if_icmp .eq 192, 3)) (by decide) g36_ ?_
    obtain ⟨x37_, g38_, h⟩ := rv_lt_e h
    refine re_iinc (pc := 1836) 4 x37_ (lv1 := [(4, .int x37_), (0, .ref 25), (1, .ref a1), (2, .ref a2), (3, .ref a3)]) (by decide +kernel : decode cL_law 1836 = .ok (.iinc 4 6, 3)) rfl g38_ (Nat.le_of_ble_eq_true rfl) rfl ?_
    refine re_goto (pc := 1839) 23 (by decide +kernel : decode cL_law 1839 = .ok (.goto (-1816), 3)) (by decide) ?_
    refine re_sub [1, 2, 3, 4, 0] (lv1 := [(0, .ref 25), (1, .ref a1), (2, .ref a2), (3, .ref a3), (4, .int x37_)]) rfl ?_
    exact hK23 a1 a2 a3 x37_ S30_ _ _ h
  · refine re_icmp_eq_f (pc := 1644) 1836 (by decide +kernel : decode cL_law 1644 = .ok (.if_icmp .eq 192, 3)) (by decide) g36_ ?_
    refine re_iconst (pc := 1647) (0 : Int32) (by decide +kernel : decode cL_law 1647 = .ok (.iconst 0, 1)) (by decide) ?_
    cases h
    exact re_iret (fun ty hty => by cases hty; rfl) (by decide +kernel : decode cL_law 1648 = .ok (.ireturn, 1))
noncomputable def cL_law_1649 (n : Nat) (L : Nat) (xs : Nat → Int32) (K23 : Nat → Nat → Nat → Int32 → rvS → Option (Int32 × rvS)) (S : rvS) (a1 : Nat) (a2 : Nat) (a3 : Nat) (x4 : Int32) : Option (Int32 × rvS) :=
  (rv_vl S a1).bind fun _ =>
  (rv_vl S a2).bind fun _ =>
  (rv_vl S a3).bind fun _ =>
  (rv_ix L (x4 + (1 : Int32))).bind fun j4_ =>
  (rv_ck S 10 a1).bind fun u7_ =>
  (fnX12_drawn n S a1 (xs j4_)).bind fun x10_ =>
  (rv_ix L (x4 + (1 : Int32))).bind fun j12_ =>
  (rv_ck S 11 a2).bind fun u15_ =>
  rv_bp (fnX13_drawn n S a2 (xs j12_)) fun x18_ S19_ =>
  if x10_ = x18_ then (
    rv_lt (x4 + (6)) fun x26_ =>
    K23 a1 a2 a3 x26_ S19_)
  else (
    some ((0 : Int32), S19_))
set_option maxRecDepth 20000 in
set_option maxHeartbeats 4000000 in
theorem eL_law_1649 (n : Nat) (L : Nat) (xs : Nat → Int32) (K23 : Nat → Nat → Nat → Int32 → rvS → Option (Int32 × rvS)) (hK23 : ∀ (a1 : Nat) (a2 : Nat) (a3 : Nat) (x4 : Int32) (S : rvS) (r : Int32) (S' : rvS), K23 a1 a2 a3 x4 S = some (r, S') → rv_Ev (mL_law L xs) 200 23 [(0, .ref 25), (1, .ref a1), (2, .ref a2), (3, .ref a3), (4, .int x4)] [] S (some (.int r)) S') (S : rvS) (a1 : Nat) (a2 : Nat) (a3 : Nat) (x4 : Int32) (r : Int32) (S' : rvS) (h : cL_law_1649 n L xs K23 S a1 a2 a3 x4 = some (r, S')) : rv_Ev (mL_law L xs) 200 1649 [(0, .ref 25), (1, .ref a1), (2, .ref a2), (3, .ref a3), (4, .int x4)] [] S (some (.int r)) S' := by
  unfold cL_law_1649 at h
  obtain ⟨_, g1_, h⟩ := rv_b_e h
  obtain ⟨_, g2_, h⟩ := rv_b_e h
  obtain ⟨_, g3_, h⟩ := rv_b_e h
  refine re_aloadn (pc := 1649) 1 (by decide +kernel : decode cL_law 1649 = .ok (.aload_n 1, 1)) rfl ?_
  refine re_aloadn (pc := 1650) 0 (by decide +kernel : decode cL_law 1650 = .ok (.aload_n 0, 1)) rfl ?_
  refine re_iload (pc := 1651) 4 (by decide +kernel : decode cL_law 1651 = .ok (.iload 4, 2)) rfl ?_
  refine re_iconst (pc := 1653) (1 : Int32) (by decide +kernel : decode cL_law 1653 = .ok (.iconst 1, 1)) (by decide) ?_
  refine re_iadd (pc := 1654) (by decide +kernel : decode cL_law 1654 = .ok (.iadd, 1)) ?_
  obtain ⟨j4_, g5_, h⟩ := rv_b_e h
  have z6_ := rv_ix_e g5_
  refine re_sld (pc := 1655) (L := L) (xs := xs) rfl z6_.1 (by decide +kernel : decode cL_law 1655 = .ok (.iaload, 1)) ?_
  refine re_nI (congrArg xs z6_.2.symm) ?_
  obtain ⟨u7_, g8_, h⟩ := rv_b_e h
  obtain ⟨x10_, g11_, h⟩ := rv_b_e h
  have m9_ := metX12_drawn n S a1 (xs j4_) _ g11_
  refine re_cV (pc := 1656) [.int (xs j4_)] m9_ (rv_okl.k ⟨rfl, rfl⟩) (rv_up.rf _ _) (by decide) (rv_ck_e g8_) ⟨by decide, rfl⟩ (Nat.le_of_ble_eq_true rfl) lVL_194 rfl (by decide +kernel : decode cL_law 1656 = .ok (.invokevirtual 194, 3)) ?_
  refine re_aloadn (pc := 1659) 2 (by decide +kernel : decode cL_law 1659 = .ok (.aload_n 2, 1)) rfl ?_
  refine re_aloadn (pc := 1660) 0 (by decide +kernel : decode cL_law 1660 = .ok (.aload_n 0, 1)) rfl ?_
  refine re_iload (pc := 1661) 4 (by decide +kernel : decode cL_law 1661 = .ok (.iload 4, 2)) rfl ?_
  refine re_iconst (pc := 1663) (1 : Int32) (by decide +kernel : decode cL_law 1663 = .ok (.iconst 1, 1)) (by decide) ?_
  refine re_iadd (pc := 1664) (by decide +kernel : decode cL_law 1664 = .ok (.iadd, 1)) ?_
  obtain ⟨j12_, g13_, h⟩ := rv_b_e h
  have z14_ := rv_ix_e g13_
  refine re_sld (pc := 1665) (L := L) (xs := xs) rfl z14_.1 (by decide +kernel : decode cL_law 1665 = .ok (.iaload, 1)) ?_
  refine re_nI (congrArg xs z14_.2.symm) ?_
  obtain ⟨u15_, g16_, h⟩ := rv_b_e h
  obtain ⟨x18_, S19_, g20_, h⟩ := rv_bp_e h
  have m17_ := metX13_drawn n S a2 (xs j12_) _ _ g20_
  have z21_ : rv_same S S19_ := m17_.sh rfl
  have o22_ : a1 < 64 + S19_.1.length := by rw [z21_.1]; exact (rv_vl_e g1_)
  have o23_ : a2 < 64 + S19_.1.length := by rw [z21_.1]; exact (rv_vl_e g2_)
  have o24_ : a3 < 64 + S19_.1.length := by rw [z21_.1]; exact (rv_vl_e g3_)
  refine re_cV (pc := 1666) [.int (xs j12_)] m17_ (rv_okl.k z21_) (rv_up.sh z21_) (by decide) (rv_ck_e g16_) ⟨by decide, rfl⟩ (Nat.le_of_ble_eq_true rfl) lVL_197 rfl (by decide +kernel : decode cL_law 1666 = .ok (.invokevirtual 197, 3)) ?_
  rcases rv_if_e h with ⟨g25_, h⟩ | ⟨g25_, h⟩
  · refine re_icmp_eq_t (pc := 1669) 1836 (by decide +kernel : decode cL_law 1669 = .ok (.if_icmp .eq 167, 3)) (by decide) g25_ ?_
    obtain ⟨x26_, g27_, h⟩ := rv_lt_e h
    refine re_iinc (pc := 1836) 4 x26_ (lv1 := [(4, .int x26_), (0, .ref 25), (1, .ref a1), (2, .ref a2), (3, .ref a3)]) (by decide +kernel : decode cL_law 1836 = .ok (.iinc 4 6, 3)) rfl g27_ (Nat.le_of_ble_eq_true rfl) rfl ?_
    refine re_goto (pc := 1839) 23 (by decide +kernel : decode cL_law 1839 = .ok (.goto (-1816), 3)) (by decide) ?_
    refine re_sub [1, 2, 3, 4, 0] (lv1 := [(0, .ref 25), (1, .ref a1), (2, .ref a2), (3, .ref a3), (4, .int x26_)]) rfl ?_
    exact hK23 a1 a2 a3 x26_ S19_ _ _ h
  · refine re_icmp_eq_f (pc := 1669) 1836 (by decide +kernel : decode cL_law 1669 = .ok (.if_icmp .eq 167, 3)) (by decide) g25_ ?_
    refine re_iconst (pc := 1672) (0 : Int32) (by decide +kernel : decode cL_law 1672 = .ok (.iconst 0, 1)) (by decide) ?_
    cases h
    exact re_iret (fun ty hty => by cases hty; rfl) (by decide +kernel : decode cL_law 1673 = .ok (.ireturn, 1))
noncomputable def cL_law_1674 (n : Nat) (L : Nat) (xs : Nat → Int32) (K23 : Nat → Nat → Nat → Int32 → rvS → Option (Int32 × rvS)) (S : rvS) (a1 : Nat) (a2 : Nat) (a3 : Nat) (x4 : Int32) : Option (Int32 × rvS) :=
  (rv_vl S a1).bind fun _ =>
  (rv_vl S a2).bind fun _ =>
  (rv_vl S a3).bind fun _ =>
  (rv_ix L (x4 + (1 : Int32))).bind fun j4_ =>
  (rv_ix L (x4 + (2 : Int32))).bind fun j7_ =>
  (rv_ix L (x4 + (3 : Int32))).bind fun j10_ =>
  (rv_ck S 10 a1).bind fun u13_ =>
  rv_bp (fnX12_trade n S a1 (xs j4_) (xs j7_) (xs j10_)) fun x16_ S17_ =>
  (rv_ix L (x4 + (1 : Int32))).bind fun j23_ =>
  (rv_ix L (x4 + (2 : Int32))).bind fun j26_ =>
  (rv_ix L (x4 + (3 : Int32))).bind fun j29_ =>
  (rv_ck S17_ 11 a2).bind fun u32_ =>
  rv_bp (fnX13_trade n S17_ a2 (xs j23_) (xs j26_) (xs j29_)) fun x35_ S36_ =>
  if x16_ = x35_ then (
    rv_lt (x4 + (6)) fun x43_ =>
    K23 a1 a2 a3 x43_ S36_)
  else (
    some ((0 : Int32), S36_))
set_option maxRecDepth 20000 in
set_option maxHeartbeats 4000000 in
theorem eL_law_1674 (n : Nat) (L : Nat) (xs : Nat → Int32) (K23 : Nat → Nat → Nat → Int32 → rvS → Option (Int32 × rvS)) (hK23 : ∀ (a1 : Nat) (a2 : Nat) (a3 : Nat) (x4 : Int32) (S : rvS) (r : Int32) (S' : rvS), K23 a1 a2 a3 x4 S = some (r, S') → rv_Ev (mL_law L xs) 200 23 [(0, .ref 25), (1, .ref a1), (2, .ref a2), (3, .ref a3), (4, .int x4)] [] S (some (.int r)) S') (S : rvS) (a1 : Nat) (a2 : Nat) (a3 : Nat) (x4 : Int32) (r : Int32) (S' : rvS) (h : cL_law_1674 n L xs K23 S a1 a2 a3 x4 = some (r, S')) : rv_Ev (mL_law L xs) 200 1674 [(0, .ref 25), (1, .ref a1), (2, .ref a2), (3, .ref a3), (4, .int x4)] [] S (some (.int r)) S' := by
  unfold cL_law_1674 at h
  obtain ⟨_, g1_, h⟩ := rv_b_e h
  obtain ⟨_, g2_, h⟩ := rv_b_e h
  obtain ⟨_, g3_, h⟩ := rv_b_e h
  refine re_aloadn (pc := 1674) 1 (by decide +kernel : decode cL_law 1674 = .ok (.aload_n 1, 1)) rfl ?_
  refine re_aloadn (pc := 1675) 0 (by decide +kernel : decode cL_law 1675 = .ok (.aload_n 0, 1)) rfl ?_
  refine re_iload (pc := 1676) 4 (by decide +kernel : decode cL_law 1676 = .ok (.iload 4, 2)) rfl ?_
  refine re_iconst (pc := 1678) (1 : Int32) (by decide +kernel : decode cL_law 1678 = .ok (.iconst 1, 1)) (by decide) ?_
  refine re_iadd (pc := 1679) (by decide +kernel : decode cL_law 1679 = .ok (.iadd, 1)) ?_
  obtain ⟨j4_, g5_, h⟩ := rv_b_e h
  have z6_ := rv_ix_e g5_
  refine re_sld (pc := 1680) (L := L) (xs := xs) rfl z6_.1 (by decide +kernel : decode cL_law 1680 = .ok (.iaload, 1)) ?_
  refine re_nI (congrArg xs z6_.2.symm) ?_
  refine re_aloadn (pc := 1681) 0 (by decide +kernel : decode cL_law 1681 = .ok (.aload_n 0, 1)) rfl ?_
  refine re_iload (pc := 1682) 4 (by decide +kernel : decode cL_law 1682 = .ok (.iload 4, 2)) rfl ?_
  refine re_iconst (pc := 1684) (2 : Int32) (by decide +kernel : decode cL_law 1684 = .ok (.iconst 2, 1)) (by decide) ?_
  refine re_iadd (pc := 1685) (by decide +kernel : decode cL_law 1685 = .ok (.iadd, 1)) ?_
  obtain ⟨j7_, g8_, h⟩ := rv_b_e h
  have z9_ := rv_ix_e g8_
  refine re_sld (pc := 1686) (L := L) (xs := xs) rfl z9_.1 (by decide +kernel : decode cL_law 1686 = .ok (.iaload, 1)) ?_
  refine re_nI (congrArg xs z9_.2.symm) ?_
  refine re_aloadn (pc := 1687) 0 (by decide +kernel : decode cL_law 1687 = .ok (.aload_n 0, 1)) rfl ?_
  refine re_iload (pc := 1688) 4 (by decide +kernel : decode cL_law 1688 = .ok (.iload 4, 2)) rfl ?_
  refine re_iconst (pc := 1690) (3 : Int32) (by decide +kernel : decode cL_law 1690 = .ok (.iconst 3, 1)) (by decide) ?_
  refine re_iadd (pc := 1691) (by decide +kernel : decode cL_law 1691 = .ok (.iadd, 1)) ?_
  obtain ⟨j10_, g11_, h⟩ := rv_b_e h
  have z12_ := rv_ix_e g11_
  refine re_sld (pc := 1692) (L := L) (xs := xs) rfl z12_.1 (by decide +kernel : decode cL_law 1692 = .ok (.iaload, 1)) ?_
  refine re_nI (congrArg xs z12_.2.symm) ?_
  obtain ⟨u13_, g14_, h⟩ := rv_b_e h
  obtain ⟨x16_, S17_, g18_, h⟩ := rv_bp_e h
  have m15_ := metX12_trade n S a1 (xs j4_) (xs j7_) (xs j10_) _ _ g18_
  have z19_ : rv_same S S17_ := m15_.sh rfl
  have o20_ : a1 < 64 + S17_.1.length := by rw [z19_.1]; exact (rv_vl_e g1_)
  have o21_ : a2 < 64 + S17_.1.length := by rw [z19_.1]; exact (rv_vl_e g2_)
  have o22_ : a3 < 64 + S17_.1.length := by rw [z19_.1]; exact (rv_vl_e g3_)
  refine re_cV (pc := 1693) [.int (xs j4_), .int (xs j7_), .int (xs j10_)] m15_ (rv_okl.k z19_) (rv_up.sh z19_) (by decide) (rv_ck_e g14_) ⟨by decide, rfl⟩ (Nat.le_of_ble_eq_true rfl) lVL_198 rfl (by decide +kernel : decode cL_law 1693 = .ok (.invokevirtual 198, 3)) ?_
  refine re_aloadn (pc := 1696) 2 (by decide +kernel : decode cL_law 1696 = .ok (.aload_n 2, 1)) rfl ?_
  refine re_aloadn (pc := 1697) 0 (by decide +kernel : decode cL_law 1697 = .ok (.aload_n 0, 1)) rfl ?_
  refine re_iload (pc := 1698) 4 (by decide +kernel : decode cL_law 1698 = .ok (.iload 4, 2)) rfl ?_
  refine re_iconst (pc := 1700) (1 : Int32) (by decide +kernel : decode cL_law 1700 = .ok (.iconst 1, 1)) (by decide) ?_
  refine re_iadd (pc := 1701) (by decide +kernel : decode cL_law 1701 = .ok (.iadd, 1)) ?_
  obtain ⟨j23_, g24_, h⟩ := rv_b_e h
  have z25_ := rv_ix_e g24_
  refine re_sld (pc := 1702) (L := L) (xs := xs) rfl z25_.1 (by decide +kernel : decode cL_law 1702 = .ok (.iaload, 1)) ?_
  refine re_nI (congrArg xs z25_.2.symm) ?_
  refine re_aloadn (pc := 1703) 0 (by decide +kernel : decode cL_law 1703 = .ok (.aload_n 0, 1)) rfl ?_
  refine re_iload (pc := 1704) 4 (by decide +kernel : decode cL_law 1704 = .ok (.iload 4, 2)) rfl ?_
  refine re_iconst (pc := 1706) (2 : Int32) (by decide +kernel : decode cL_law 1706 = .ok (.iconst 2, 1)) (by decide) ?_
  refine re_iadd (pc := 1707) (by decide +kernel : decode cL_law 1707 = .ok (.iadd, 1)) ?_
  obtain ⟨j26_, g27_, h⟩ := rv_b_e h
  have z28_ := rv_ix_e g27_
  refine re_sld (pc := 1708) (L := L) (xs := xs) rfl z28_.1 (by decide +kernel : decode cL_law 1708 = .ok (.iaload, 1)) ?_
  refine re_nI (congrArg xs z28_.2.symm) ?_
  refine re_aloadn (pc := 1709) 0 (by decide +kernel : decode cL_law 1709 = .ok (.aload_n 0, 1)) rfl ?_
  refine re_iload (pc := 1710) 4 (by decide +kernel : decode cL_law 1710 = .ok (.iload 4, 2)) rfl ?_
  refine re_iconst (pc := 1712) (3 : Int32) (by decide +kernel : decode cL_law 1712 = .ok (.iconst 3, 1)) (by decide) ?_
  refine re_iadd (pc := 1713) (by decide +kernel : decode cL_law 1713 = .ok (.iadd, 1)) ?_
  obtain ⟨j29_, g30_, h⟩ := rv_b_e h
  have z31_ := rv_ix_e g30_
  refine re_sld (pc := 1714) (L := L) (xs := xs) rfl z31_.1 (by decide +kernel : decode cL_law 1714 = .ok (.iaload, 1)) ?_
  refine re_nI (congrArg xs z31_.2.symm) ?_
  obtain ⟨u32_, g33_, h⟩ := rv_b_e h
  obtain ⟨x35_, S36_, g37_, h⟩ := rv_bp_e h
  have m34_ := metX13_trade n S17_ a2 (xs j23_) (xs j26_) (xs j29_) _ _ g37_
  have z38_ : rv_same S17_ S36_ := m34_.sh rfl
  have o39_ : a1 < 64 + S36_.1.length := by rw [z38_.1]; exact o20_
  have o40_ : a2 < 64 + S36_.1.length := by rw [z38_.1]; exact o21_
  have o41_ : a3 < 64 + S36_.1.length := by rw [z38_.1]; exact o22_
  refine re_cV (pc := 1715) [.int (xs j23_), .int (xs j26_), .int (xs j29_)] m34_ (rv_okl.k z38_) (rv_up.sh z38_) (by decide) (rv_ck_e g33_) ⟨by decide, rfl⟩ (Nat.le_of_ble_eq_true rfl) lVL_201 rfl (by decide +kernel : decode cL_law 1715 = .ok (.invokevirtual 201, 3)) ?_
  rcases rv_if_e h with ⟨g42_, h⟩ | ⟨g42_, h⟩
  · refine re_icmp_eq_t (pc := 1718) 1836 (by decide +kernel : decode cL_law 1718 = .ok (.if_icmp .eq 118, 3)) (by decide) g42_ ?_
    obtain ⟨x43_, g44_, h⟩ := rv_lt_e h
    refine re_iinc (pc := 1836) 4 x43_ (lv1 := [(4, .int x43_), (0, .ref 25), (1, .ref a1), (2, .ref a2), (3, .ref a3)]) (by decide +kernel : decode cL_law 1836 = .ok (.iinc 4 6, 3)) rfl g44_ (Nat.le_of_ble_eq_true rfl) rfl ?_
    refine re_goto (pc := 1839) 23 (by decide +kernel : decode cL_law 1839 = .ok (.goto (-1816), 3)) (by decide) ?_
    refine re_sub [1, 2, 3, 4, 0] (lv1 := [(0, .ref 25), (1, .ref a1), (2, .ref a2), (3, .ref a3), (4, .int x43_)]) rfl ?_
    exact hK23 a1 a2 a3 x43_ S36_ _ _ h
  · refine re_icmp_eq_f (pc := 1718) 1836 (by decide +kernel : decode cL_law 1718 = .ok (.if_icmp .eq 118, 3)) (by decide) g42_ ?_
    refine re_iconst (pc := 1721) (0 : Int32) (by decide +kernel : decode cL_law 1721 = .ok (.iconst 0, 1)) (by decide) ?_
    cases h
    exact re_iret (fun ty hty => by cases hty; rfl) (by decide +kernel : decode cL_law 1722 = .ok (.ireturn, 1))
noncomputable def cL_law_1723 (n : Nat) (L : Nat) (xs : Nat → Int32) (K23 : Nat → Nat → Nat → Int32 → rvS → Option (Int32 × rvS)) (S : rvS) (a1 : Nat) (a2 : Nat) (a3 : Nat) (x4 : Int32) : Option (Int32 × rvS) :=
  (rv_vl S a1).bind fun _ =>
  (rv_vl S a2).bind fun _ =>
  (rv_vl S a3).bind fun _ =>
  (rv_ck S 10 a1).bind fun u4_ =>
  rv_bp (fnX12_sentence n S a1) fun x7_ S8_ =>
  (rv_ck S8_ 11 a2).bind fun u14_ =>
  rv_bp (fnX13_sentence n S8_ a2) fun x17_ S18_ =>
  if x7_ = x17_ then (
    rv_lt (x4 + (6)) fun x25_ =>
    K23 a1 a2 a3 x25_ S18_)
  else (
    some ((0 : Int32), S18_))
set_option maxRecDepth 20000 in
set_option maxHeartbeats 4000000 in
theorem eL_law_1723 (n : Nat) (L : Nat) (xs : Nat → Int32) (K23 : Nat → Nat → Nat → Int32 → rvS → Option (Int32 × rvS)) (hK23 : ∀ (a1 : Nat) (a2 : Nat) (a3 : Nat) (x4 : Int32) (S : rvS) (r : Int32) (S' : rvS), K23 a1 a2 a3 x4 S = some (r, S') → rv_Ev (mL_law L xs) 200 23 [(0, .ref 25), (1, .ref a1), (2, .ref a2), (3, .ref a3), (4, .int x4)] [] S (some (.int r)) S') (S : rvS) (a1 : Nat) (a2 : Nat) (a3 : Nat) (x4 : Int32) (r : Int32) (S' : rvS) (h : cL_law_1723 n L xs K23 S a1 a2 a3 x4 = some (r, S')) : rv_Ev (mL_law L xs) 200 1723 [(0, .ref 25), (1, .ref a1), (2, .ref a2), (3, .ref a3), (4, .int x4)] [] S (some (.int r)) S' := by
  unfold cL_law_1723 at h
  obtain ⟨_, g1_, h⟩ := rv_b_e h
  obtain ⟨_, g2_, h⟩ := rv_b_e h
  obtain ⟨_, g3_, h⟩ := rv_b_e h
  refine re_aloadn (pc := 1723) 1 (by decide +kernel : decode cL_law 1723 = .ok (.aload_n 1, 1)) rfl ?_
  obtain ⟨u4_, g5_, h⟩ := rv_b_e h
  obtain ⟨x7_, S8_, g9_, h⟩ := rv_bp_e h
  have m6_ := metX12_sentence n S a1 _ _ g9_
  have z10_ : rv_same S S8_ := m6_.sh rfl
  have o11_ : a1 < 64 + S8_.1.length := by rw [z10_.1]; exact (rv_vl_e g1_)
  have o12_ : a2 < 64 + S8_.1.length := by rw [z10_.1]; exact (rv_vl_e g2_)
  have o13_ : a3 < 64 + S8_.1.length := by rw [z10_.1]; exact (rv_vl_e g3_)
  refine re_cV (pc := 1724) [] m6_ (rv_okl.k z10_) (rv_up.sh z10_) (by decide) (rv_ck_e g5_) ⟨by decide, rfl⟩ (Nat.le_of_ble_eq_true rfl) lVL_202 rfl (by decide +kernel : decode cL_law 1724 = .ok (.invokevirtual 202, 3)) ?_
  refine re_aloadn (pc := 1727) 2 (by decide +kernel : decode cL_law 1727 = .ok (.aload_n 2, 1)) rfl ?_
  obtain ⟨u14_, g15_, h⟩ := rv_b_e h
  obtain ⟨x17_, S18_, g19_, h⟩ := rv_bp_e h
  have m16_ := metX13_sentence n S8_ a2 _ _ g19_
  have z20_ : rv_same S8_ S18_ := m16_.sh rfl
  have o21_ : a1 < 64 + S18_.1.length := by rw [z20_.1]; exact o11_
  have o22_ : a2 < 64 + S18_.1.length := by rw [z20_.1]; exact o12_
  have o23_ : a3 < 64 + S18_.1.length := by rw [z20_.1]; exact o13_
  refine re_cV (pc := 1728) [] m16_ (rv_okl.k z20_) (rv_up.sh z20_) (by decide) (rv_ck_e g15_) ⟨by decide, rfl⟩ (Nat.le_of_ble_eq_true rfl) lVL_205 rfl (by decide +kernel : decode cL_law 1728 = .ok (.invokevirtual 205, 3)) ?_
  rcases rv_if_e h with ⟨g24_, h⟩ | ⟨g24_, h⟩
  · refine re_icmp_eq_t (pc := 1731) 1836 (by decide +kernel : decode cL_law 1731 = .ok (.if_icmp .eq 105, 3)) (by decide) g24_ ?_
    obtain ⟨x25_, g26_, h⟩ := rv_lt_e h
    refine re_iinc (pc := 1836) 4 x25_ (lv1 := [(4, .int x25_), (0, .ref 25), (1, .ref a1), (2, .ref a2), (3, .ref a3)]) (by decide +kernel : decode cL_law 1836 = .ok (.iinc 4 6, 3)) rfl g26_ (Nat.le_of_ble_eq_true rfl) rfl ?_
    refine re_goto (pc := 1839) 23 (by decide +kernel : decode cL_law 1839 = .ok (.goto (-1816), 3)) (by decide) ?_
    refine re_sub [1, 2, 3, 4, 0] (lv1 := [(0, .ref 25), (1, .ref a1), (2, .ref a2), (3, .ref a3), (4, .int x25_)]) rfl ?_
    exact hK23 a1 a2 a3 x25_ S18_ _ _ h
  · refine re_icmp_eq_f (pc := 1731) 1836 (by decide +kernel : decode cL_law 1731 = .ok (.if_icmp .eq 105, 3)) (by decide) g24_ ?_
    refine re_iconst (pc := 1734) (0 : Int32) (by decide +kernel : decode cL_law 1734 = .ok (.iconst 0, 1)) (by decide) ?_
    cases h
    exact re_iret (fun ty hty => by cases hty; rfl) (by decide +kernel : decode cL_law 1735 = .ok (.ireturn, 1))
noncomputable def cL_law_1736 (n : Nat) (L : Nat) (xs : Nat → Int32) (K23 : Nat → Nat → Nat → Int32 → rvS → Option (Int32 × rvS)) (S : rvS) (a1 : Nat) (a2 : Nat) (a3 : Nat) (x4 : Int32) : Option (Int32 × rvS) :=
  (rv_vl S a1).bind fun _ =>
  (rv_vl S a2).bind fun _ =>
  (rv_vl S a3).bind fun _ =>
  (rv_ix L (x4 + (1 : Int32))).bind fun j4_ =>
  (rv_ck S 10 a1).bind fun u7_ =>
  rv_bp (fnX12_said n S a1 (xs j4_)) fun x10_ S11_ =>
  (rv_ix L (x4 + (1 : Int32))).bind fun j17_ =>
  (rv_ck S11_ 11 a2).bind fun u20_ =>
  rv_bp (fnX13_said n S11_ a2 (xs j17_)) fun x23_ S24_ =>
  if x10_ = x23_ then (
    rv_lt (x4 + (6)) fun x31_ =>
    K23 a1 a2 a3 x31_ S24_)
  else (
    some ((0 : Int32), S24_))
set_option maxRecDepth 20000 in
set_option maxHeartbeats 4000000 in
theorem eL_law_1736 (n : Nat) (L : Nat) (xs : Nat → Int32) (K23 : Nat → Nat → Nat → Int32 → rvS → Option (Int32 × rvS)) (hK23 : ∀ (a1 : Nat) (a2 : Nat) (a3 : Nat) (x4 : Int32) (S : rvS) (r : Int32) (S' : rvS), K23 a1 a2 a3 x4 S = some (r, S') → rv_Ev (mL_law L xs) 200 23 [(0, .ref 25), (1, .ref a1), (2, .ref a2), (3, .ref a3), (4, .int x4)] [] S (some (.int r)) S') (S : rvS) (a1 : Nat) (a2 : Nat) (a3 : Nat) (x4 : Int32) (r : Int32) (S' : rvS) (h : cL_law_1736 n L xs K23 S a1 a2 a3 x4 = some (r, S')) : rv_Ev (mL_law L xs) 200 1736 [(0, .ref 25), (1, .ref a1), (2, .ref a2), (3, .ref a3), (4, .int x4)] [] S (some (.int r)) S' := by
  unfold cL_law_1736 at h
  obtain ⟨_, g1_, h⟩ := rv_b_e h
  obtain ⟨_, g2_, h⟩ := rv_b_e h
  obtain ⟨_, g3_, h⟩ := rv_b_e h
  refine re_aloadn (pc := 1736) 1 (by decide +kernel : decode cL_law 1736 = .ok (.aload_n 1, 1)) rfl ?_
  refine re_aloadn (pc := 1737) 0 (by decide +kernel : decode cL_law 1737 = .ok (.aload_n 0, 1)) rfl ?_
  refine re_iload (pc := 1738) 4 (by decide +kernel : decode cL_law 1738 = .ok (.iload 4, 2)) rfl ?_
  refine re_iconst (pc := 1740) (1 : Int32) (by decide +kernel : decode cL_law 1740 = .ok (.iconst 1, 1)) (by decide) ?_
  refine re_iadd (pc := 1741) (by decide +kernel : decode cL_law 1741 = .ok (.iadd, 1)) ?_
  obtain ⟨j4_, g5_, h⟩ := rv_b_e h
  have z6_ := rv_ix_e g5_
  refine re_sld (pc := 1742) (L := L) (xs := xs) rfl z6_.1 (by decide +kernel : decode cL_law 1742 = .ok (.iaload, 1)) ?_
  refine re_nI (congrArg xs z6_.2.symm) ?_
  obtain ⟨u7_, g8_, h⟩ := rv_b_e h
  obtain ⟨x10_, S11_, g12_, h⟩ := rv_bp_e h
  have m9_ := metX12_said n S a1 (xs j4_) _ _ g12_
  have z13_ : rv_same S S11_ := m9_.sh rfl
  have o14_ : a1 < 64 + S11_.1.length := by rw [z13_.1]; exact (rv_vl_e g1_)
  have o15_ : a2 < 64 + S11_.1.length := by rw [z13_.1]; exact (rv_vl_e g2_)
  have o16_ : a3 < 64 + S11_.1.length := by rw [z13_.1]; exact (rv_vl_e g3_)
  refine re_cV (pc := 1743) [.int (xs j4_)] m9_ (rv_okl.k z13_) (rv_up.sh z13_) (by decide) (rv_ck_e g8_) ⟨by decide, rfl⟩ (Nat.le_of_ble_eq_true rfl) lVL_206 rfl (by decide +kernel : decode cL_law 1743 = .ok (.invokevirtual 206, 3)) ?_
  refine re_aloadn (pc := 1746) 2 (by decide +kernel : decode cL_law 1746 = .ok (.aload_n 2, 1)) rfl ?_
  refine re_aloadn (pc := 1747) 0 (by decide +kernel : decode cL_law 1747 = .ok (.aload_n 0, 1)) rfl ?_
  refine re_iload (pc := 1748) 4 (by decide +kernel : decode cL_law 1748 = .ok (.iload 4, 2)) rfl ?_
  refine re_iconst (pc := 1750) (1 : Int32) (by decide +kernel : decode cL_law 1750 = .ok (.iconst 1, 1)) (by decide) ?_
  refine re_iadd (pc := 1751) (by decide +kernel : decode cL_law 1751 = .ok (.iadd, 1)) ?_
  obtain ⟨j17_, g18_, h⟩ := rv_b_e h
  have z19_ := rv_ix_e g18_
  refine re_sld (pc := 1752) (L := L) (xs := xs) rfl z19_.1 (by decide +kernel : decode cL_law 1752 = .ok (.iaload, 1)) ?_
  refine re_nI (congrArg xs z19_.2.symm) ?_
  obtain ⟨u20_, g21_, h⟩ := rv_b_e h
  obtain ⟨x23_, S24_, g25_, h⟩ := rv_bp_e h
  have m22_ := metX13_said n S11_ a2 (xs j17_) _ _ g25_
  have z26_ : rv_same S11_ S24_ := m22_.sh rfl
  have o27_ : a1 < 64 + S24_.1.length := by rw [z26_.1]; exact o14_
  have o28_ : a2 < 64 + S24_.1.length := by rw [z26_.1]; exact o15_
  have o29_ : a3 < 64 + S24_.1.length := by rw [z26_.1]; exact o16_
  refine re_cV (pc := 1753) [.int (xs j17_)] m22_ (rv_okl.k z26_) (rv_up.sh z26_) (by decide) (rv_ck_e g21_) ⟨by decide, rfl⟩ (Nat.le_of_ble_eq_true rfl) lVL_209 rfl (by decide +kernel : decode cL_law 1753 = .ok (.invokevirtual 209, 3)) ?_
  rcases rv_if_e h with ⟨g30_, h⟩ | ⟨g30_, h⟩
  · refine re_icmp_eq_t (pc := 1756) 1836 (by decide +kernel : decode cL_law 1756 = .ok (.if_icmp .eq 80, 3)) (by decide) g30_ ?_
    obtain ⟨x31_, g32_, h⟩ := rv_lt_e h
    refine re_iinc (pc := 1836) 4 x31_ (lv1 := [(4, .int x31_), (0, .ref 25), (1, .ref a1), (2, .ref a2), (3, .ref a3)]) (by decide +kernel : decode cL_law 1836 = .ok (.iinc 4 6, 3)) rfl g32_ (Nat.le_of_ble_eq_true rfl) rfl ?_
    refine re_goto (pc := 1839) 23 (by decide +kernel : decode cL_law 1839 = .ok (.goto (-1816), 3)) (by decide) ?_
    refine re_sub [1, 2, 3, 4, 0] (lv1 := [(0, .ref 25), (1, .ref a1), (2, .ref a2), (3, .ref a3), (4, .int x31_)]) rfl ?_
    exact hK23 a1 a2 a3 x31_ S24_ _ _ h
  · refine re_icmp_eq_f (pc := 1756) 1836 (by decide +kernel : decode cL_law 1756 = .ok (.if_icmp .eq 80, 3)) (by decide) g30_ ?_
    refine re_iconst (pc := 1759) (0 : Int32) (by decide +kernel : decode cL_law 1759 = .ok (.iconst 0, 1)) (by decide) ?_
    cases h
    exact re_iret (fun ty hty => by cases hty; rfl) (by decide +kernel : decode cL_law 1760 = .ok (.ireturn, 1))
noncomputable def cL_law_1761 (n : Nat) (L : Nat) (xs : Nat → Int32) (K23 : Nat → Nat → Nat → Int32 → rvS → Option (Int32 × rvS)) (S : rvS) (a1 : Nat) (a2 : Nat) (a3 : Nat) (x4 : Int32) : Option (Int32 × rvS) :=
  (rv_vl S a1).bind fun _ =>
  (rv_vl S a2).bind fun _ =>
  (rv_vl S a3).bind fun _ =>
  (rv_ix L (x4 + (1 : Int32))).bind fun j4_ =>
  (rv_ck S 10 a1).bind fun u7_ =>
  rv_bp (fnX12_image n S a1 (xs j4_)) fun x10_ S11_ =>
  (rv_ix L (x4 + (1 : Int32))).bind fun j17_ =>
  (rv_ck S11_ 11 a2).bind fun u20_ =>
  rv_bp (fnX13_image n S11_ a2 (xs j17_)) fun x23_ S24_ =>
  if x10_ = x23_ then (
    rv_lt (x4 + (6)) fun x31_ =>
    K23 a1 a2 a3 x31_ S24_)
  else (
    some ((0 : Int32), S24_))
set_option maxRecDepth 20000 in
set_option maxHeartbeats 4000000 in
theorem eL_law_1761 (n : Nat) (L : Nat) (xs : Nat → Int32) (K23 : Nat → Nat → Nat → Int32 → rvS → Option (Int32 × rvS)) (hK23 : ∀ (a1 : Nat) (a2 : Nat) (a3 : Nat) (x4 : Int32) (S : rvS) (r : Int32) (S' : rvS), K23 a1 a2 a3 x4 S = some (r, S') → rv_Ev (mL_law L xs) 200 23 [(0, .ref 25), (1, .ref a1), (2, .ref a2), (3, .ref a3), (4, .int x4)] [] S (some (.int r)) S') (S : rvS) (a1 : Nat) (a2 : Nat) (a3 : Nat) (x4 : Int32) (r : Int32) (S' : rvS) (h : cL_law_1761 n L xs K23 S a1 a2 a3 x4 = some (r, S')) : rv_Ev (mL_law L xs) 200 1761 [(0, .ref 25), (1, .ref a1), (2, .ref a2), (3, .ref a3), (4, .int x4)] [] S (some (.int r)) S' := by
  unfold cL_law_1761 at h
  obtain ⟨_, g1_, h⟩ := rv_b_e h
  obtain ⟨_, g2_, h⟩ := rv_b_e h
  obtain ⟨_, g3_, h⟩ := rv_b_e h
  refine re_aloadn (pc := 1761) 1 (by decide +kernel : decode cL_law 1761 = .ok (.aload_n 1, 1)) rfl ?_
  refine re_aloadn (pc := 1762) 0 (by decide +kernel : decode cL_law 1762 = .ok (.aload_n 0, 1)) rfl ?_
  refine re_iload (pc := 1763) 4 (by decide +kernel : decode cL_law 1763 = .ok (.iload 4, 2)) rfl ?_
  refine re_iconst (pc := 1765) (1 : Int32) (by decide +kernel : decode cL_law 1765 = .ok (.iconst 1, 1)) (by decide) ?_
  refine re_iadd (pc := 1766) (by decide +kernel : decode cL_law 1766 = .ok (.iadd, 1)) ?_
  obtain ⟨j4_, g5_, h⟩ := rv_b_e h
  have z6_ := rv_ix_e g5_
  refine re_sld (pc := 1767) (L := L) (xs := xs) rfl z6_.1 (by decide +kernel : decode cL_law 1767 = .ok (.iaload, 1)) ?_
  refine re_nI (congrArg xs z6_.2.symm) ?_
  obtain ⟨u7_, g8_, h⟩ := rv_b_e h
  obtain ⟨x10_, S11_, g12_, h⟩ := rv_bp_e h
  have m9_ := metX12_image n S a1 (xs j4_) _ _ g12_
  have z13_ : rv_same S S11_ := m9_.sh rfl
  have o14_ : a1 < 64 + S11_.1.length := by rw [z13_.1]; exact (rv_vl_e g1_)
  have o15_ : a2 < 64 + S11_.1.length := by rw [z13_.1]; exact (rv_vl_e g2_)
  have o16_ : a3 < 64 + S11_.1.length := by rw [z13_.1]; exact (rv_vl_e g3_)
  refine re_cV (pc := 1768) [.int (xs j4_)] m9_ (rv_okl.k z13_) (rv_up.sh z13_) (by decide) (rv_ck_e g8_) ⟨by decide, rfl⟩ (Nat.le_of_ble_eq_true rfl) lVL_210 rfl (by decide +kernel : decode cL_law 1768 = .ok (.invokevirtual 210, 3)) ?_
  refine re_aloadn (pc := 1771) 2 (by decide +kernel : decode cL_law 1771 = .ok (.aload_n 2, 1)) rfl ?_
  refine re_aloadn (pc := 1772) 0 (by decide +kernel : decode cL_law 1772 = .ok (.aload_n 0, 1)) rfl ?_
  refine re_iload (pc := 1773) 4 (by decide +kernel : decode cL_law 1773 = .ok (.iload 4, 2)) rfl ?_
  refine re_iconst (pc := 1775) (1 : Int32) (by decide +kernel : decode cL_law 1775 = .ok (.iconst 1, 1)) (by decide) ?_
  refine re_iadd (pc := 1776) (by decide +kernel : decode cL_law 1776 = .ok (.iadd, 1)) ?_
  obtain ⟨j17_, g18_, h⟩ := rv_b_e h
  have z19_ := rv_ix_e g18_
  refine re_sld (pc := 1777) (L := L) (xs := xs) rfl z19_.1 (by decide +kernel : decode cL_law 1777 = .ok (.iaload, 1)) ?_
  refine re_nI (congrArg xs z19_.2.symm) ?_
  obtain ⟨u20_, g21_, h⟩ := rv_b_e h
  obtain ⟨x23_, S24_, g25_, h⟩ := rv_bp_e h
  have m22_ := metX13_image n S11_ a2 (xs j17_) _ _ g25_
  have z26_ : rv_same S11_ S24_ := m22_.sh rfl
  have o27_ : a1 < 64 + S24_.1.length := by rw [z26_.1]; exact o14_
  have o28_ : a2 < 64 + S24_.1.length := by rw [z26_.1]; exact o15_
  have o29_ : a3 < 64 + S24_.1.length := by rw [z26_.1]; exact o16_
  refine re_cV (pc := 1778) [.int (xs j17_)] m22_ (rv_okl.k z26_) (rv_up.sh z26_) (by decide) (rv_ck_e g21_) ⟨by decide, rfl⟩ (Nat.le_of_ble_eq_true rfl) lVL_213 rfl (by decide +kernel : decode cL_law 1778 = .ok (.invokevirtual 213, 3)) ?_
  rcases rv_if_e h with ⟨g30_, h⟩ | ⟨g30_, h⟩
  · refine re_icmp_eq_t (pc := 1781) 1836 (by decide +kernel : decode cL_law 1781 = .ok (.if_icmp .eq 55, 3)) (by decide) g30_ ?_
    obtain ⟨x31_, g32_, h⟩ := rv_lt_e h
    refine re_iinc (pc := 1836) 4 x31_ (lv1 := [(4, .int x31_), (0, .ref 25), (1, .ref a1), (2, .ref a2), (3, .ref a3)]) (by decide +kernel : decode cL_law 1836 = .ok (.iinc 4 6, 3)) rfl g32_ (Nat.le_of_ble_eq_true rfl) rfl ?_
    refine re_goto (pc := 1839) 23 (by decide +kernel : decode cL_law 1839 = .ok (.goto (-1816), 3)) (by decide) ?_
    refine re_sub [1, 2, 3, 4, 0] (lv1 := [(0, .ref 25), (1, .ref a1), (2, .ref a2), (3, .ref a3), (4, .int x31_)]) rfl ?_
    exact hK23 a1 a2 a3 x31_ S24_ _ _ h
  · refine re_icmp_eq_f (pc := 1781) 1836 (by decide +kernel : decode cL_law 1781 = .ok (.if_icmp .eq 55, 3)) (by decide) g30_ ?_
    refine re_iconst (pc := 1784) (0 : Int32) (by decide +kernel : decode cL_law 1784 = .ok (.iconst 0, 1)) (by decide) ?_
    cases h
    exact re_iret (fun ty hty => by cases hty; rfl) (by decide +kernel : decode cL_law 1785 = .ok (.ireturn, 1))
noncomputable def cL_law_1786 (n : Nat) (L : Nat) (xs : Nat → Int32) (K23 : Nat → Nat → Nat → Int32 → rvS → Option (Int32 × rvS)) (S : rvS) (a1 : Nat) (a2 : Nat) (a3 : Nat) (x4 : Int32) : Option (Int32 × rvS) :=
  (rv_vl S a1).bind fun _ =>
  (rv_vl S a2).bind fun _ =>
  (rv_vl S a3).bind fun _ =>
  (rv_ix L (x4 + (1 : Int32))).bind fun j4_ =>
  (rv_ck S 10 a1).bind fun u7_ =>
  rv_bp (fnX12_restore n S a1 (xs j4_)) fun x10_ S11_ =>
  (rv_ix L (x4 + (1 : Int32))).bind fun j17_ =>
  (rv_ck S11_ 11 a2).bind fun u20_ =>
  rv_bp (fnX13_restore n S11_ a2 (xs j17_)) fun x23_ S24_ =>
  if x10_ = x23_ then (
    rv_lt (x4 + (6)) fun x31_ =>
    K23 a1 a2 a3 x31_ S24_)
  else (
    some ((0 : Int32), S24_))
set_option maxRecDepth 20000 in
set_option maxHeartbeats 4000000 in
theorem eL_law_1786 (n : Nat) (L : Nat) (xs : Nat → Int32) (K23 : Nat → Nat → Nat → Int32 → rvS → Option (Int32 × rvS)) (hK23 : ∀ (a1 : Nat) (a2 : Nat) (a3 : Nat) (x4 : Int32) (S : rvS) (r : Int32) (S' : rvS), K23 a1 a2 a3 x4 S = some (r, S') → rv_Ev (mL_law L xs) 200 23 [(0, .ref 25), (1, .ref a1), (2, .ref a2), (3, .ref a3), (4, .int x4)] [] S (some (.int r)) S') (S : rvS) (a1 : Nat) (a2 : Nat) (a3 : Nat) (x4 : Int32) (r : Int32) (S' : rvS) (h : cL_law_1786 n L xs K23 S a1 a2 a3 x4 = some (r, S')) : rv_Ev (mL_law L xs) 200 1786 [(0, .ref 25), (1, .ref a1), (2, .ref a2), (3, .ref a3), (4, .int x4)] [] S (some (.int r)) S' := by
  unfold cL_law_1786 at h
  obtain ⟨_, g1_, h⟩ := rv_b_e h
  obtain ⟨_, g2_, h⟩ := rv_b_e h
  obtain ⟨_, g3_, h⟩ := rv_b_e h
  refine re_aloadn (pc := 1786) 1 (by decide +kernel : decode cL_law 1786 = .ok (.aload_n 1, 1)) rfl ?_
  refine re_aloadn (pc := 1787) 0 (by decide +kernel : decode cL_law 1787 = .ok (.aload_n 0, 1)) rfl ?_
  refine re_iload (pc := 1788) 4 (by decide +kernel : decode cL_law 1788 = .ok (.iload 4, 2)) rfl ?_
  refine re_iconst (pc := 1790) (1 : Int32) (by decide +kernel : decode cL_law 1790 = .ok (.iconst 1, 1)) (by decide) ?_
  refine re_iadd (pc := 1791) (by decide +kernel : decode cL_law 1791 = .ok (.iadd, 1)) ?_
  obtain ⟨j4_, g5_, h⟩ := rv_b_e h
  have z6_ := rv_ix_e g5_
  refine re_sld (pc := 1792) (L := L) (xs := xs) rfl z6_.1 (by decide +kernel : decode cL_law 1792 = .ok (.iaload, 1)) ?_
  refine re_nI (congrArg xs z6_.2.symm) ?_
  obtain ⟨u7_, g8_, h⟩ := rv_b_e h
  obtain ⟨x10_, S11_, g12_, h⟩ := rv_bp_e h
  have m9_ := metX12_restore n S a1 (xs j4_) _ _ g12_
  have z13_ : rv_same S S11_ := m9_.sh rfl
  have o14_ : a1 < 64 + S11_.1.length := by rw [z13_.1]; exact (rv_vl_e g1_)
  have o15_ : a2 < 64 + S11_.1.length := by rw [z13_.1]; exact (rv_vl_e g2_)
  have o16_ : a3 < 64 + S11_.1.length := by rw [z13_.1]; exact (rv_vl_e g3_)
  refine re_cV (pc := 1793) [.int (xs j4_)] m9_ (rv_okl.k z13_) (rv_up.sh z13_) (by decide) (rv_ck_e g8_) ⟨by decide, rfl⟩ (Nat.le_of_ble_eq_true rfl) lVL_214 rfl (by decide +kernel : decode cL_law 1793 = .ok (.invokevirtual 214, 3)) ?_
  refine re_aloadn (pc := 1796) 2 (by decide +kernel : decode cL_law 1796 = .ok (.aload_n 2, 1)) rfl ?_
  refine re_aloadn (pc := 1797) 0 (by decide +kernel : decode cL_law 1797 = .ok (.aload_n 0, 1)) rfl ?_
  refine re_iload (pc := 1798) 4 (by decide +kernel : decode cL_law 1798 = .ok (.iload 4, 2)) rfl ?_
  refine re_iconst (pc := 1800) (1 : Int32) (by decide +kernel : decode cL_law 1800 = .ok (.iconst 1, 1)) (by decide) ?_
  refine re_iadd (pc := 1801) (by decide +kernel : decode cL_law 1801 = .ok (.iadd, 1)) ?_
  obtain ⟨j17_, g18_, h⟩ := rv_b_e h
  have z19_ := rv_ix_e g18_
  refine re_sld (pc := 1802) (L := L) (xs := xs) rfl z19_.1 (by decide +kernel : decode cL_law 1802 = .ok (.iaload, 1)) ?_
  refine re_nI (congrArg xs z19_.2.symm) ?_
  obtain ⟨u20_, g21_, h⟩ := rv_b_e h
  obtain ⟨x23_, S24_, g25_, h⟩ := rv_bp_e h
  have m22_ := metX13_restore n S11_ a2 (xs j17_) _ _ g25_
  have z26_ : rv_same S11_ S24_ := m22_.sh rfl
  have o27_ : a1 < 64 + S24_.1.length := by rw [z26_.1]; exact o14_
  have o28_ : a2 < 64 + S24_.1.length := by rw [z26_.1]; exact o15_
  have o29_ : a3 < 64 + S24_.1.length := by rw [z26_.1]; exact o16_
  refine re_cV (pc := 1803) [.int (xs j17_)] m22_ (rv_okl.k z26_) (rv_up.sh z26_) (by decide) (rv_ck_e g21_) ⟨by decide, rfl⟩ (Nat.le_of_ble_eq_true rfl) lVL_217 rfl (by decide +kernel : decode cL_law 1803 = .ok (.invokevirtual 217, 3)) ?_
  rcases rv_if_e h with ⟨g30_, h⟩ | ⟨g30_, h⟩
  · refine re_icmp_eq_t (pc := 1806) 1836 (by decide +kernel : decode cL_law 1806 = .ok (.if_icmp .eq 30, 3)) (by decide) g30_ ?_
    obtain ⟨x31_, g32_, h⟩ := rv_lt_e h
    refine re_iinc (pc := 1836) 4 x31_ (lv1 := [(4, .int x31_), (0, .ref 25), (1, .ref a1), (2, .ref a2), (3, .ref a3)]) (by decide +kernel : decode cL_law 1836 = .ok (.iinc 4 6, 3)) rfl g32_ (Nat.le_of_ble_eq_true rfl) rfl ?_
    refine re_goto (pc := 1839) 23 (by decide +kernel : decode cL_law 1839 = .ok (.goto (-1816), 3)) (by decide) ?_
    refine re_sub [1, 2, 3, 4, 0] (lv1 := [(0, .ref 25), (1, .ref a1), (2, .ref a2), (3, .ref a3), (4, .int x31_)]) rfl ?_
    exact hK23 a1 a2 a3 x31_ S24_ _ _ h
  · refine re_icmp_eq_f (pc := 1806) 1836 (by decide +kernel : decode cL_law 1806 = .ok (.if_icmp .eq 30, 3)) (by decide) g30_ ?_
    refine re_iconst (pc := 1809) (0 : Int32) (by decide +kernel : decode cL_law 1809 = .ok (.iconst 0, 1)) (by decide) ?_
    cases h
    exact re_iret (fun ty hty => by cases hty; rfl) (by decide +kernel : decode cL_law 1810 = .ok (.ireturn, 1))
noncomputable def cL_law_1811 (n : Nat) (L : Nat) (xs : Nat → Int32) (K23 : Nat → Nat → Nat → Int32 → rvS → Option (Int32 × rvS)) (S : rvS) (a1 : Nat) (a2 : Nat) (a3 : Nat) (x4 : Int32) : Option (Int32 × rvS) :=
  (rv_vl S a1).bind fun _ =>
  (rv_vl S a2).bind fun _ =>
  (rv_vl S a3).bind fun _ =>
  (rv_ix L (x4 + (1 : Int32))).bind fun j4_ =>
  (rv_ck S 10 a1).bind fun u7_ =>
  (fnX12_count n S a1 (xs j4_)).bind fun x10_ =>
  (rv_ix L (x4 + (1 : Int32))).bind fun j12_ =>
  (rv_ck S 11 a2).bind fun u15_ =>
  rv_bp (fnX13_count n S a2 (xs j12_)) fun x18_ S19_ =>
  if x10_ = x18_ then (
    rv_lt (x4 + (6)) fun x26_ =>
    K23 a1 a2 a3 x26_ S19_)
  else (
    some ((0 : Int32), S19_))
set_option maxRecDepth 20000 in
set_option maxHeartbeats 4000000 in
theorem eL_law_1811 (n : Nat) (L : Nat) (xs : Nat → Int32) (K23 : Nat → Nat → Nat → Int32 → rvS → Option (Int32 × rvS)) (hK23 : ∀ (a1 : Nat) (a2 : Nat) (a3 : Nat) (x4 : Int32) (S : rvS) (r : Int32) (S' : rvS), K23 a1 a2 a3 x4 S = some (r, S') → rv_Ev (mL_law L xs) 200 23 [(0, .ref 25), (1, .ref a1), (2, .ref a2), (3, .ref a3), (4, .int x4)] [] S (some (.int r)) S') (S : rvS) (a1 : Nat) (a2 : Nat) (a3 : Nat) (x4 : Int32) (r : Int32) (S' : rvS) (h : cL_law_1811 n L xs K23 S a1 a2 a3 x4 = some (r, S')) : rv_Ev (mL_law L xs) 200 1811 [(0, .ref 25), (1, .ref a1), (2, .ref a2), (3, .ref a3), (4, .int x4)] [] S (some (.int r)) S' := by
  unfold cL_law_1811 at h
  obtain ⟨_, g1_, h⟩ := rv_b_e h
  obtain ⟨_, g2_, h⟩ := rv_b_e h
  obtain ⟨_, g3_, h⟩ := rv_b_e h
  refine re_aloadn (pc := 1811) 1 (by decide +kernel : decode cL_law 1811 = .ok (.aload_n 1, 1)) rfl ?_
  refine re_aloadn (pc := 1812) 0 (by decide +kernel : decode cL_law 1812 = .ok (.aload_n 0, 1)) rfl ?_
  refine re_iload (pc := 1813) 4 (by decide +kernel : decode cL_law 1813 = .ok (.iload 4, 2)) rfl ?_
  refine re_iconst (pc := 1815) (1 : Int32) (by decide +kernel : decode cL_law 1815 = .ok (.iconst 1, 1)) (by decide) ?_
  refine re_iadd (pc := 1816) (by decide +kernel : decode cL_law 1816 = .ok (.iadd, 1)) ?_
  obtain ⟨j4_, g5_, h⟩ := rv_b_e h
  have z6_ := rv_ix_e g5_
  refine re_sld (pc := 1817) (L := L) (xs := xs) rfl z6_.1 (by decide +kernel : decode cL_law 1817 = .ok (.iaload, 1)) ?_
  refine re_nI (congrArg xs z6_.2.symm) ?_
  obtain ⟨u7_, g8_, h⟩ := rv_b_e h
  obtain ⟨x10_, g11_, h⟩ := rv_b_e h
  have m9_ := metX12_count n S a1 (xs j4_) _ g11_
  refine re_cV (pc := 1818) [.int (xs j4_)] m9_ (rv_okl.k ⟨rfl, rfl⟩) (rv_up.rf _ _) (by decide) (rv_ck_e g8_) ⟨by decide, rfl⟩ (Nat.le_of_ble_eq_true rfl) lVL_218 rfl (by decide +kernel : decode cL_law 1818 = .ok (.invokevirtual 218, 3)) ?_
  refine re_aloadn (pc := 1821) 2 (by decide +kernel : decode cL_law 1821 = .ok (.aload_n 2, 1)) rfl ?_
  refine re_aloadn (pc := 1822) 0 (by decide +kernel : decode cL_law 1822 = .ok (.aload_n 0, 1)) rfl ?_
  refine re_iload (pc := 1823) 4 (by decide +kernel : decode cL_law 1823 = .ok (.iload 4, 2)) rfl ?_
  refine re_iconst (pc := 1825) (1 : Int32) (by decide +kernel : decode cL_law 1825 = .ok (.iconst 1, 1)) (by decide) ?_
  refine re_iadd (pc := 1826) (by decide +kernel : decode cL_law 1826 = .ok (.iadd, 1)) ?_
  obtain ⟨j12_, g13_, h⟩ := rv_b_e h
  have z14_ := rv_ix_e g13_
  refine re_sld (pc := 1827) (L := L) (xs := xs) rfl z14_.1 (by decide +kernel : decode cL_law 1827 = .ok (.iaload, 1)) ?_
  refine re_nI (congrArg xs z14_.2.symm) ?_
  obtain ⟨u15_, g16_, h⟩ := rv_b_e h
  obtain ⟨x18_, S19_, g20_, h⟩ := rv_bp_e h
  have m17_ := metX13_count n S a2 (xs j12_) _ _ g20_
  have z21_ : rv_same S S19_ := m17_.sh rfl
  have o22_ : a1 < 64 + S19_.1.length := by rw [z21_.1]; exact (rv_vl_e g1_)
  have o23_ : a2 < 64 + S19_.1.length := by rw [z21_.1]; exact (rv_vl_e g2_)
  have o24_ : a3 < 64 + S19_.1.length := by rw [z21_.1]; exact (rv_vl_e g3_)
  refine re_cV (pc := 1828) [.int (xs j12_)] m17_ (rv_okl.k z21_) (rv_up.sh z21_) (by decide) (rv_ck_e g16_) ⟨by decide, rfl⟩ (Nat.le_of_ble_eq_true rfl) lVL_221 rfl (by decide +kernel : decode cL_law 1828 = .ok (.invokevirtual 221, 3)) ?_
  rcases rv_if_e h with ⟨g25_, h⟩ | ⟨g25_, h⟩
  · refine re_icmp_eq_t (pc := 1831) 1836 (by decide +kernel : decode cL_law 1831 = .ok (.if_icmp .eq 5, 3)) (by decide) g25_ ?_
    obtain ⟨x26_, g27_, h⟩ := rv_lt_e h
    refine re_iinc (pc := 1836) 4 x26_ (lv1 := [(4, .int x26_), (0, .ref 25), (1, .ref a1), (2, .ref a2), (3, .ref a3)]) (by decide +kernel : decode cL_law 1836 = .ok (.iinc 4 6, 3)) rfl g27_ (Nat.le_of_ble_eq_true rfl) rfl ?_
    refine re_goto (pc := 1839) 23 (by decide +kernel : decode cL_law 1839 = .ok (.goto (-1816), 3)) (by decide) ?_
    refine re_sub [1, 2, 3, 4, 0] (lv1 := [(0, .ref 25), (1, .ref a1), (2, .ref a2), (3, .ref a3), (4, .int x26_)]) rfl ?_
    exact hK23 a1 a2 a3 x26_ S19_ _ _ h
  · refine re_icmp_eq_f (pc := 1831) 1836 (by decide +kernel : decode cL_law 1831 = .ok (.if_icmp .eq 5, 3)) (by decide) g25_ ?_
    refine re_iconst (pc := 1834) (0 : Int32) (by decide +kernel : decode cL_law 1834 = .ok (.iconst 0, 1)) (by decide) ?_
    cases h
    exact re_iret (fun ty hty => by cases hty; rfl) (by decide +kernel : decode cL_law 1835 = .ok (.ireturn, 1))
noncomputable def cL_law_23 (n : Nat) (L : Nat) (xs : Nat → Int32) : Nat → rvS → Nat → Nat → Nat → Int32 → Option (Int32 × rvS)
  | 0, _, _, _, _, _ => none
  | k + 1, S, a1, a2, a3, x4 =>
    (rv_vl S a1).bind fun _ =>
    (rv_vl S a2).bind fun _ =>
    (rv_vl S a3).bind fun _ =>
    if ((Int32.ofNat L) - (6 : Int32)) < x4 then (
      some ((1 : Int32), S))
    else (
      (rv_ix L x4).bind fun j5_ =>
      rv_lt ((xs j5_) &&& (63 : Int32)) fun x8_ =>
      if x8_ = 0 then (
        cL_law_244 n L xs (fun a1 a2 a3 x4 S => cL_law_23 n L xs k S a1 a2 a3 x4) S a1 a2 a3 x4)
      else (
        if x8_ = 1 then (
          cL_law_317 n L xs (fun a1 a2 a3 x4 S => cL_law_23 n L xs k S a1 a2 a3 x4) S a1 a2 a3 x4)
        else (
          if x8_ = 2 then (
            cL_law_342 n L xs (fun a1 a2 a3 x4 S => cL_law_23 n L xs k S a1 a2 a3 x4) S a1 a2 a3 x4)
          else (
            if x8_ = 3 then (
              cL_law_355 n L xs (fun a1 a2 a3 x4 S => cL_law_23 n L xs k S a1 a2 a3 x4) S a1 a2 a3 x4)
            else (
              if x8_ = 4 then (
                cL_law_368 n L xs (fun a1 a2 a3 x4 S => cL_law_23 n L xs k S a1 a2 a3 x4) S a1 a2 a3 x4)
              else (
                if x8_ = 5 then (
                  cL_law_436 n L xs (fun a1 a2 a3 x4 S => cL_law_23 n L xs k S a1 a2 a3 x4) S a1 a2 a3 x4)
                else (
                  if x8_ = 6 then (
                    cL_law_504 n L xs (fun a1 a2 a3 x4 S => cL_law_23 n L xs k S a1 a2 a3 x4) S a1 a2 a3 x4)
                  else (
                    if x8_ = 7 then (
                      cL_law_541 n L xs (fun a1 a2 a3 x4 S => cL_law_23 n L xs k S a1 a2 a3 x4) S a1 a2 a3 x4)
                    else (
                      if x8_ = 8 then (
                        cL_law_578 n L xs (fun a1 a2 a3 x4 S => cL_law_23 n L xs k S a1 a2 a3 x4) S a1 a2 a3 x4)
                      else (
                        if x8_ = 9 then (
                          cL_law_615 n L xs (fun a1 a2 a3 x4 S => cL_law_23 n L xs k S a1 a2 a3 x4) S a1 a2 a3 x4)
                        else (
                          if x8_ = 10 then (
                            cL_law_652 n L xs (fun a1 a2 a3 x4 S => cL_law_23 n L xs k S a1 a2 a3 x4) S a1 a2 a3 x4)
                          else (
                            if x8_ = 11 then (
                              cL_law_689 n L xs (fun a1 a2 a3 x4 S => cL_law_23 n L xs k S a1 a2 a3 x4) S a1 a2 a3 x4)
                            else (
                              if x8_ = 12 then (
                                cL_law_714 n L xs (fun a1 a2 a3 x4 S => cL_law_23 n L xs k S a1 a2 a3 x4) S a1 a2 a3 x4)
                              else (
                                if x8_ = 13 then (
                                  cL_law_763 n L xs (fun a1 a2 a3 x4 S => cL_law_23 n L xs k S a1 a2 a3 x4) S a1 a2 a3 x4)
                                else (
                                  if x8_ = 14 then (
                                    cL_law_788 n L xs (fun a1 a2 a3 x4 S => cL_law_23 n L xs k S a1 a2 a3 x4) S a1 a2 a3 x4)
                                  else (
                                    if x8_ = 15 then (
                                      cL_law_837 n L xs (fun a1 a2 a3 x4 S => cL_law_23 n L xs k S a1 a2 a3 x4) S a1 a2 a3 x4)
                                    else (
                                      if x8_ = 16 then (
                                        cL_law_874 n L xs (fun a1 a2 a3 x4 S => cL_law_23 n L xs k S a1 a2 a3 x4) S a1 a2 a3 x4)
                                      else (
                                        if x8_ = 17 then (
                                          cL_law_911 n L xs (fun a1 a2 a3 x4 S => cL_law_23 n L xs k S a1 a2 a3 x4) S a1 a2 a3 x4)
                                        else (
                                          if x8_ = 18 then (
                                            cL_law_984 n L xs (fun a1 a2 a3 x4 S => cL_law_23 n L xs k S a1 a2 a3 x4) S a1 a2 a3 x4)
                                          else (
                                            if x8_ = 19 then (
                                              cL_law_1021 n L xs (fun a1 a2 a3 x4 S => cL_law_23 n L xs k S a1 a2 a3 x4) S a1 a2 a3 x4)
                                            else (
                                              if x8_ = 20 then (
                                                cL_law_1046 n L xs (fun a1 a2 a3 x4 S => cL_law_23 n L xs k S a1 a2 a3 x4) S a1 a2 a3 x4)
                                              else (
                                                if x8_ = 21 then (
                                                  cL_law_1083 n L xs (fun a1 a2 a3 x4 S => cL_law_23 n L xs k S a1 a2 a3 x4) S a1 a2 a3 x4)
                                                else (
                                                  if x8_ = 22 then (
                                                    cL_law_1120 n L xs (fun a1 a2 a3 x4 S => cL_law_23 n L xs k S a1 a2 a3 x4) S a1 a2 a3 x4)
                                                  else (
                                                    if x8_ = 23 then (
                                                      cL_law_1157 n L xs (fun a1 a2 a3 x4 S => cL_law_23 n L xs k S a1 a2 a3 x4) S a1 a2 a3 x4)
                                                    else (
                                                      if x8_ = 24 then (
                                                        cL_law_1182 n L xs (fun a1 a2 a3 x4 S => cL_law_23 n L xs k S a1 a2 a3 x4) S a1 a2 a3 x4)
                                                      else (
                                                        if x8_ = 25 then (
                                                          cL_law_1219 n L xs (fun a1 a2 a3 x4 S => cL_law_23 n L xs k S a1 a2 a3 x4) S a1 a2 a3 x4)
                                                        else (
                                                          if x8_ = 26 then (
                                                            cL_law_1244 n L xs (fun a1 a2 a3 x4 S => cL_law_23 n L xs k S a1 a2 a3 x4) S a1 a2 a3 x4)
                                                          else (
                                                            if x8_ = 27 then (
                                                              cL_law_1269 n L xs (fun a1 a2 a3 x4 S => cL_law_23 n L xs k S a1 a2 a3 x4) S a1 a2 a3 x4)
                                                            else (
                                                              if x8_ = 28 then (
                                                                cL_law_1282 n L xs (fun a1 a2 a3 x4 S => cL_law_23 n L xs k S a1 a2 a3 x4) S a1 a2 a3 x4)
                                                              else (
                                                                if x8_ = 29 then (
                                                                  cL_law_1295 n L xs (fun a1 a2 a3 x4 S => cL_law_23 n L xs k S a1 a2 a3 x4) S a1 a2 a3 x4)
                                                                else (
                                                                  if x8_ = 30 then (
                                                                    cL_law_1332 n L xs (fun a1 a2 a3 x4 S => cL_law_23 n L xs k S a1 a2 a3 x4) S a1 a2 a3 x4)
                                                                  else (
                                                                    if x8_ = 31 then (
                                                                      cL_law_1357 n L xs (fun a1 a2 a3 x4 S => cL_law_23 n L xs k S a1 a2 a3 x4) S a1 a2 a3 x4)
                                                                    else (
                                                                      if x8_ = 32 then (
                                                                        cL_law_1382 n L xs (fun a1 a2 a3 x4 S => cL_law_23 n L xs k S a1 a2 a3 x4) S a1 a2 a3 x4)
                                                                      else (
                                                                        if x8_ = 33 then (
                                                                          cL_law_1407 n L xs (fun a1 a2 a3 x4 S => cL_law_23 n L xs k S a1 a2 a3 x4) S a1 a2 a3 x4)
                                                                        else (
                                                                          if x8_ = 34 then (
                                                                            cL_law_1475 n L xs (fun a1 a2 a3 x4 S => cL_law_23 n L xs k S a1 a2 a3 x4) S a1 a2 a3 x4)
                                                                          else (
                                                                            if x8_ = 35 then (
                                                                              cL_law_1500 n L xs (fun a1 a2 a3 x4 S => cL_law_23 n L xs k S a1 a2 a3 x4) S a1 a2 a3 x4)
                                                                            else (
                                                                              if x8_ = 36 then (
                                                                                cL_law_1513 n L xs (fun a1 a2 a3 x4 S => cL_law_23 n L xs k S a1 a2 a3 x4) S a1 a2 a3 x4)
                                                                              else (
                                                                                if x8_ = 37 then (
                                                                                  cL_law_1538 n L xs (fun a1 a2 a3 x4 S => cL_law_23 n L xs k S a1 a2 a3 x4) S a1 a2 a3 x4)
                                                                                else (
                                                                                  if x8_ = 38 then (
                                                                                    cL_law_1587 n L xs (fun a1 a2 a3 x4 S => cL_law_23 n L xs k S a1 a2 a3 x4) S a1 a2 a3 x4)
                                                                                  else (
                                                                                    if x8_ = 39 then (
                                                                                      cL_law_1612 n L xs (fun a1 a2 a3 x4 S => cL_law_23 n L xs k S a1 a2 a3 x4) S a1 a2 a3 x4)
                                                                                    else (
                                                                                      if x8_ = 40 then (
                                                                                        cL_law_1649 n L xs (fun a1 a2 a3 x4 S => cL_law_23 n L xs k S a1 a2 a3 x4) S a1 a2 a3 x4)
                                                                                      else (
                                                                                        if x8_ = 41 then (
                                                                                          cL_law_1674 n L xs (fun a1 a2 a3 x4 S => cL_law_23 n L xs k S a1 a2 a3 x4) S a1 a2 a3 x4)
                                                                                        else (
                                                                                          if x8_ = 42 then (
                                                                                            cL_law_1723 n L xs (fun a1 a2 a3 x4 S => cL_law_23 n L xs k S a1 a2 a3 x4) S a1 a2 a3 x4)
                                                                                          else (
                                                                                            if x8_ = 43 then (
                                                                                              cL_law_1736 n L xs (fun a1 a2 a3 x4 S => cL_law_23 n L xs k S a1 a2 a3 x4) S a1 a2 a3 x4)
                                                                                            else (
                                                                                              if x8_ = 44 then (
                                                                                                cL_law_1761 n L xs (fun a1 a2 a3 x4 S => cL_law_23 n L xs k S a1 a2 a3 x4) S a1 a2 a3 x4)
                                                                                              else (
                                                                                                if x8_ = 45 then (
                                                                                                  cL_law_1786 n L xs (fun a1 a2 a3 x4 S => cL_law_23 n L xs k S a1 a2 a3 x4) S a1 a2 a3 x4)
                                                                                                else (
                                                                                                  if x8_ = 46 then (
                                                                                                    cL_law_1811 n L xs (fun a1 a2 a3 x4 S => cL_law_23 n L xs k S a1 a2 a3 x4) S a1 a2 a3 x4)
                                                                                                  else (
                                                                                                    rv_lt (x4 + (6)) fun x57_ =>
                                                                                                    cL_law_23 n L xs k S a1 a2 a3 x57_))))))))))))))))))))))))))))))))))))))))))))))))
set_option maxRecDepth 20000 in
set_option maxHeartbeats 4000000 in
theorem eL_law_23 (n : Nat) (L : Nat) (xs : Nat → Int32) : ∀ (k : Nat) (S : rvS) (a1 : Nat) (a2 : Nat) (a3 : Nat) (x4 : Int32) (r : Int32) (S' : rvS), cL_law_23 n L xs k S a1 a2 a3 x4 = some (r, S') → rv_Ev (mL_law L xs) 200 23 [(0, .ref 25), (1, .ref a1), (2, .ref a2), (3, .ref a3), (4, .int x4)] [] S (some (.int r)) S' := by
  intro k
  induction k with
  | zero => intro S a1 a2 a3 x4 r S' h; exact absurd h (by simp [cL_law_23])
  | succ k ih =>
    intro S a1 a2 a3 x4 r S' h
    unfold cL_law_23 at h
    obtain ⟨_, g1_, h⟩ := rv_b_e h
    obtain ⟨_, g2_, h⟩ := rv_b_e h
    obtain ⟨_, g3_, h⟩ := rv_b_e h
    refine re_iload (pc := 23) 4 (by decide +kernel : decode cL_law 23 = .ok (.iload 4, 2)) rfl ?_
    refine re_aloadn (pc := 25) 0 (by decide +kernel : decode cL_law 25 = .ok (.aload_n 0, 1)) rfl ?_
    refine re_slen (pc := 26) (L := L) (xs := xs) rfl (by decide +kernel : decode cL_law 26 = .ok (.arraylength, 1)) ?_
    refine re_bipush (pc := 27) (6 : Int32) (by decide +kernel : decode cL_law 27 = .ok (.bipush 6, 2)) (by decide) ?_
    refine re_isub (pc := 29) (by decide +kernel : decode cL_law 29 = .ok (.isub, 1)) ?_
    rcases rv_if_e h with ⟨g4_, h⟩ | ⟨g4_, h⟩
    · refine re_icmp_gt_t (pc := 30) 1842 (by decide +kernel : decode cL_law 30 = .ok (.if_icmp .gt 1812, 3)) (by decide) g4_ ?_
      refine re_iconst (pc := 1842) (1 : Int32) (by decide +kernel : decode cL_law 1842 = .ok (.iconst 1, 1)) (by decide) ?_
      cases h
      exact re_iret (fun ty hty => by cases hty; rfl) (by decide +kernel : decode cL_law 1843 = .ok (.ireturn, 1))
    · refine re_icmp_gt_f (pc := 30) 1842 (by decide +kernel : decode cL_law 30 = .ok (.if_icmp .gt 1812, 3)) (by decide) g4_ ?_
      refine re_aloadn (pc := 33) 0 (by decide +kernel : decode cL_law 33 = .ok (.aload_n 0, 1)) rfl ?_
      refine re_iload (pc := 34) 4 (by decide +kernel : decode cL_law 34 = .ok (.iload 4, 2)) rfl ?_
      obtain ⟨j5_, g6_, h⟩ := rv_b_e h
      have z7_ := rv_ix_e g6_
      refine re_sld (pc := 36) (L := L) (xs := xs) rfl z7_.1 (by decide +kernel : decode cL_law 36 = .ok (.iaload, 1)) ?_
      refine re_nI (congrArg xs z7_.2.symm) ?_
      refine re_bipush (pc := 37) (63 : Int32) (by decide +kernel : decode cL_law 37 = .ok (.bipush 63, 2)) (by decide) ?_
      refine re_iand (pc := 39) (by decide +kernel : decode cL_law 39 = .ok (.iand, 1)) ?_
      obtain ⟨x8_, g9_, h⟩ := rv_lt_e h
      refine re_nI (pc := 40) g9_ ?_
      rcases rv_if_e h with ⟨g10_, h⟩ | ⟨g10_, h⟩
      · refine re_tabInE (pc := 40) (off := 204) 244 (by decide +kernel : decode cL_law 40 = .ok (.tableswitch 1796 0 46 #[204, 277, 302, 315, 328, 396, 464, 501, 538, 575, 612, 649, 674, 723, 748, 797, 834, 871, 944, 981, 1006, 1043, 1080, 1117, 1142, 1179, 1204, 1229, 1242, 1255, 1292, 1317, 1342, 1367, 1435, 1460, 1473, 1498, 1547, 1572, 1609, 1634, 1683, 1696, 1721, 1746, 1771], 204)) g10_ (by decide) (by decide) (by decide) (by decide) ?_
        exact eL_law_244 n L xs (fun a1 a2 a3 x4 S => cL_law_23 n L xs k S a1 a2 a3 x4) (fun a1 a2 a3 x4 S _ _ h => ih S a1 a2 a3 x4 _ _ h) S a1 a2 a3 x4 _ _ h
      · skip
        rcases rv_if_e h with ⟨g11_, h⟩ | ⟨g11_, h⟩
        · refine re_tabInE (pc := 40) (off := 277) 317 (by decide +kernel : decode cL_law 40 = .ok (.tableswitch 1796 0 46 #[204, 277, 302, 315, 328, 396, 464, 501, 538, 575, 612, 649, 674, 723, 748, 797, 834, 871, 944, 981, 1006, 1043, 1080, 1117, 1142, 1179, 1204, 1229, 1242, 1255, 1292, 1317, 1342, 1367, 1435, 1460, 1473, 1498, 1547, 1572, 1609, 1634, 1683, 1696, 1721, 1746, 1771], 204)) g11_ (by decide) (by decide) (by decide) (by decide) ?_
          exact eL_law_317 n L xs (fun a1 a2 a3 x4 S => cL_law_23 n L xs k S a1 a2 a3 x4) (fun a1 a2 a3 x4 S _ _ h => ih S a1 a2 a3 x4 _ _ h) S a1 a2 a3 x4 _ _ h
        · skip
          rcases rv_if_e h with ⟨g12_, h⟩ | ⟨g12_, h⟩
          · refine re_tabInE (pc := 40) (off := 302) 342 (by decide +kernel : decode cL_law 40 = .ok (.tableswitch 1796 0 46 #[204, 277, 302, 315, 328, 396, 464, 501, 538, 575, 612, 649, 674, 723, 748, 797, 834, 871, 944, 981, 1006, 1043, 1080, 1117, 1142, 1179, 1204, 1229, 1242, 1255, 1292, 1317, 1342, 1367, 1435, 1460, 1473, 1498, 1547, 1572, 1609, 1634, 1683, 1696, 1721, 1746, 1771], 204)) g12_ (by decide) (by decide) (by decide) (by decide) ?_
            exact eL_law_342 n L xs (fun a1 a2 a3 x4 S => cL_law_23 n L xs k S a1 a2 a3 x4) (fun a1 a2 a3 x4 S _ _ h => ih S a1 a2 a3 x4 _ _ h) S a1 a2 a3 x4 _ _ h
          · skip
            rcases rv_if_e h with ⟨g13_, h⟩ | ⟨g13_, h⟩
            · refine re_tabInE (pc := 40) (off := 315) 355 (by decide +kernel : decode cL_law 40 = .ok (.tableswitch 1796 0 46 #[204, 277, 302, 315, 328, 396, 464, 501, 538, 575, 612, 649, 674, 723, 748, 797, 834, 871, 944, 981, 1006, 1043, 1080, 1117, 1142, 1179, 1204, 1229, 1242, 1255, 1292, 1317, 1342, 1367, 1435, 1460, 1473, 1498, 1547, 1572, 1609, 1634, 1683, 1696, 1721, 1746, 1771], 204)) g13_ (by decide) (by decide) (by decide) (by decide) ?_
              exact eL_law_355 n L xs (fun a1 a2 a3 x4 S => cL_law_23 n L xs k S a1 a2 a3 x4) (fun a1 a2 a3 x4 S _ _ h => ih S a1 a2 a3 x4 _ _ h) S a1 a2 a3 x4 _ _ h
            · skip
              rcases rv_if_e h with ⟨g14_, h⟩ | ⟨g14_, h⟩
              · refine re_tabInE (pc := 40) (off := 328) 368 (by decide +kernel : decode cL_law 40 = .ok (.tableswitch 1796 0 46 #[204, 277, 302, 315, 328, 396, 464, 501, 538, 575, 612, 649, 674, 723, 748, 797, 834, 871, 944, 981, 1006, 1043, 1080, 1117, 1142, 1179, 1204, 1229, 1242, 1255, 1292, 1317, 1342, 1367, 1435, 1460, 1473, 1498, 1547, 1572, 1609, 1634, 1683, 1696, 1721, 1746, 1771], 204)) g14_ (by decide) (by decide) (by decide) (by decide) ?_
                exact eL_law_368 n L xs (fun a1 a2 a3 x4 S => cL_law_23 n L xs k S a1 a2 a3 x4) (fun a1 a2 a3 x4 S _ _ h => ih S a1 a2 a3 x4 _ _ h) S a1 a2 a3 x4 _ _ h
              · skip
                rcases rv_if_e h with ⟨g15_, h⟩ | ⟨g15_, h⟩
                · refine re_tabInE (pc := 40) (off := 396) 436 (by decide +kernel : decode cL_law 40 = .ok (.tableswitch 1796 0 46 #[204, 277, 302, 315, 328, 396, 464, 501, 538, 575, 612, 649, 674, 723, 748, 797, 834, 871, 944, 981, 1006, 1043, 1080, 1117, 1142, 1179, 1204, 1229, 1242, 1255, 1292, 1317, 1342, 1367, 1435, 1460, 1473, 1498, 1547, 1572, 1609, 1634, 1683, 1696, 1721, 1746, 1771], 204)) g15_ (by decide) (by decide) (by decide) (by decide) ?_
                  exact eL_law_436 n L xs (fun a1 a2 a3 x4 S => cL_law_23 n L xs k S a1 a2 a3 x4) (fun a1 a2 a3 x4 S _ _ h => ih S a1 a2 a3 x4 _ _ h) S a1 a2 a3 x4 _ _ h
                · skip
                  rcases rv_if_e h with ⟨g16_, h⟩ | ⟨g16_, h⟩
                  · refine re_tabInE (pc := 40) (off := 464) 504 (by decide +kernel : decode cL_law 40 = .ok (.tableswitch 1796 0 46 #[204, 277, 302, 315, 328, 396, 464, 501, 538, 575, 612, 649, 674, 723, 748, 797, 834, 871, 944, 981, 1006, 1043, 1080, 1117, 1142, 1179, 1204, 1229, 1242, 1255, 1292, 1317, 1342, 1367, 1435, 1460, 1473, 1498, 1547, 1572, 1609, 1634, 1683, 1696, 1721, 1746, 1771], 204)) g16_ (by decide) (by decide) (by decide) (by decide) ?_
                    exact eL_law_504 n L xs (fun a1 a2 a3 x4 S => cL_law_23 n L xs k S a1 a2 a3 x4) (fun a1 a2 a3 x4 S _ _ h => ih S a1 a2 a3 x4 _ _ h) S a1 a2 a3 x4 _ _ h
                  · skip
                    rcases rv_if_e h with ⟨g17_, h⟩ | ⟨g17_, h⟩
                    · refine re_tabInE (pc := 40) (off := 501) 541 (by decide +kernel : decode cL_law 40 = .ok (.tableswitch 1796 0 46 #[204, 277, 302, 315, 328, 396, 464, 501, 538, 575, 612, 649, 674, 723, 748, 797, 834, 871, 944, 981, 1006, 1043, 1080, 1117, 1142, 1179, 1204, 1229, 1242, 1255, 1292, 1317, 1342, 1367, 1435, 1460, 1473, 1498, 1547, 1572, 1609, 1634, 1683, 1696, 1721, 1746, 1771], 204)) g17_ (by decide) (by decide) (by decide) (by decide) ?_
                      exact eL_law_541 n L xs (fun a1 a2 a3 x4 S => cL_law_23 n L xs k S a1 a2 a3 x4) (fun a1 a2 a3 x4 S _ _ h => ih S a1 a2 a3 x4 _ _ h) S a1 a2 a3 x4 _ _ h
                    · skip
                      rcases rv_if_e h with ⟨g18_, h⟩ | ⟨g18_, h⟩
                      · refine re_tabInE (pc := 40) (off := 538) 578 (by decide +kernel : decode cL_law 40 = .ok (.tableswitch 1796 0 46 #[204, 277, 302, 315, 328, 396, 464, 501, 538, 575, 612, 649, 674, 723, 748, 797, 834, 871, 944, 981, 1006, 1043, 1080, 1117, 1142, 1179, 1204, 1229, 1242, 1255, 1292, 1317, 1342, 1367, 1435, 1460, 1473, 1498, 1547, 1572, 1609, 1634, 1683, 1696, 1721, 1746, 1771], 204)) g18_ (by decide) (by decide) (by decide) (by decide) ?_
                        exact eL_law_578 n L xs (fun a1 a2 a3 x4 S => cL_law_23 n L xs k S a1 a2 a3 x4) (fun a1 a2 a3 x4 S _ _ h => ih S a1 a2 a3 x4 _ _ h) S a1 a2 a3 x4 _ _ h
                      · skip
                        rcases rv_if_e h with ⟨g19_, h⟩ | ⟨g19_, h⟩
                        · refine re_tabInE (pc := 40) (off := 575) 615 (by decide +kernel : decode cL_law 40 = .ok (.tableswitch 1796 0 46 #[204, 277, 302, 315, 328, 396, 464, 501, 538, 575, 612, 649, 674, 723, 748, 797, 834, 871, 944, 981, 1006, 1043, 1080, 1117, 1142, 1179, 1204, 1229, 1242, 1255, 1292, 1317, 1342, 1367, 1435, 1460, 1473, 1498, 1547, 1572, 1609, 1634, 1683, 1696, 1721, 1746, 1771], 204)) g19_ (by decide) (by decide) (by decide) (by decide) ?_
                          exact eL_law_615 n L xs (fun a1 a2 a3 x4 S => cL_law_23 n L xs k S a1 a2 a3 x4) (fun a1 a2 a3 x4 S _ _ h => ih S a1 a2 a3 x4 _ _ h) S a1 a2 a3 x4 _ _ h
                        · skip
                          rcases rv_if_e h with ⟨g20_, h⟩ | ⟨g20_, h⟩
                          · refine re_tabInE (pc := 40) (off := 612) 652 (by decide +kernel : decode cL_law 40 = .ok (.tableswitch 1796 0 46 #[204, 277, 302, 315, 328, 396, 464, 501, 538, 575, 612, 649, 674, 723, 748, 797, 834, 871, 944, 981, 1006, 1043, 1080, 1117, 1142, 1179, 1204, 1229, 1242, 1255, 1292, 1317, 1342, 1367, 1435, 1460, 1473, 1498, 1547, 1572, 1609, 1634, 1683, 1696, 1721, 1746, 1771], 204)) g20_ (by decide) (by decide) (by decide) (by decide) ?_
                            exact eL_law_652 n L xs (fun a1 a2 a3 x4 S => cL_law_23 n L xs k S a1 a2 a3 x4) (fun a1 a2 a3 x4 S _ _ h => ih S a1 a2 a3 x4 _ _ h) S a1 a2 a3 x4 _ _ h
                          · skip
                            rcases rv_if_e h with ⟨g21_, h⟩ | ⟨g21_, h⟩
                            · refine re_tabInE (pc := 40) (off := 649) 689 (by decide +kernel : decode cL_law 40 = .ok (.tableswitch 1796 0 46 #[204, 277, 302, 315, 328, 396, 464, 501, 538, 575, 612, 649, 674, 723, 748, 797, 834, 871, 944, 981, 1006, 1043, 1080, 1117, 1142, 1179, 1204, 1229, 1242, 1255, 1292, 1317, 1342, 1367, 1435, 1460, 1473, 1498, 1547, 1572, 1609, 1634, 1683, 1696, 1721, 1746, 1771], 204)) g21_ (by decide) (by decide) (by decide) (by decide) ?_
                              exact eL_law_689 n L xs (fun a1 a2 a3 x4 S => cL_law_23 n L xs k S a1 a2 a3 x4) (fun a1 a2 a3 x4 S _ _ h => ih S a1 a2 a3 x4 _ _ h) S a1 a2 a3 x4 _ _ h
                            · skip
                              rcases rv_if_e h with ⟨g22_, h⟩ | ⟨g22_, h⟩
                              · refine re_tabInE (pc := 40) (off := 674) 714 (by decide +kernel : decode cL_law 40 = .ok (.tableswitch 1796 0 46 #[204, 277, 302, 315, 328, 396, 464, 501, 538, 575, 612, 649, 674, 723, 748, 797, 834, 871, 944, 981, 1006, 1043, 1080, 1117, 1142, 1179, 1204, 1229, 1242, 1255, 1292, 1317, 1342, 1367, 1435, 1460, 1473, 1498, 1547, 1572, 1609, 1634, 1683, 1696, 1721, 1746, 1771], 204)) g22_ (by decide) (by decide) (by decide) (by decide) ?_
                                exact eL_law_714 n L xs (fun a1 a2 a3 x4 S => cL_law_23 n L xs k S a1 a2 a3 x4) (fun a1 a2 a3 x4 S _ _ h => ih S a1 a2 a3 x4 _ _ h) S a1 a2 a3 x4 _ _ h
                              · skip
                                rcases rv_if_e h with ⟨g23_, h⟩ | ⟨g23_, h⟩
                                · refine re_tabInE (pc := 40) (off := 723) 763 (by decide +kernel : decode cL_law 40 = .ok (.tableswitch 1796 0 46 #[204, 277, 302, 315, 328, 396, 464, 501, 538, 575, 612, 649, 674, 723, 748, 797, 834, 871, 944, 981, 1006, 1043, 1080, 1117, 1142, 1179, 1204, 1229, 1242, 1255, 1292, 1317, 1342, 1367, 1435, 1460, 1473, 1498, 1547, 1572, 1609, 1634, 1683, 1696, 1721, 1746, 1771], 204)) g23_ (by decide) (by decide) (by decide) (by decide) ?_
                                  exact eL_law_763 n L xs (fun a1 a2 a3 x4 S => cL_law_23 n L xs k S a1 a2 a3 x4) (fun a1 a2 a3 x4 S _ _ h => ih S a1 a2 a3 x4 _ _ h) S a1 a2 a3 x4 _ _ h
                                · skip
                                  rcases rv_if_e h with ⟨g24_, h⟩ | ⟨g24_, h⟩
                                  · refine re_tabInE (pc := 40) (off := 748) 788 (by decide +kernel : decode cL_law 40 = .ok (.tableswitch 1796 0 46 #[204, 277, 302, 315, 328, 396, 464, 501, 538, 575, 612, 649, 674, 723, 748, 797, 834, 871, 944, 981, 1006, 1043, 1080, 1117, 1142, 1179, 1204, 1229, 1242, 1255, 1292, 1317, 1342, 1367, 1435, 1460, 1473, 1498, 1547, 1572, 1609, 1634, 1683, 1696, 1721, 1746, 1771], 204)) g24_ (by decide) (by decide) (by decide) (by decide) ?_
                                    exact eL_law_788 n L xs (fun a1 a2 a3 x4 S => cL_law_23 n L xs k S a1 a2 a3 x4) (fun a1 a2 a3 x4 S _ _ h => ih S a1 a2 a3 x4 _ _ h) S a1 a2 a3 x4 _ _ h
                                  · skip
                                    rcases rv_if_e h with ⟨g25_, h⟩ | ⟨g25_, h⟩
                                    · refine re_tabInE (pc := 40) (off := 797) 837 (by decide +kernel : decode cL_law 40 = .ok (.tableswitch 1796 0 46 #[204, 277, 302, 315, 328, 396, 464, 501, 538, 575, 612, 649, 674, 723, 748, 797, 834, 871, 944, 981, 1006, 1043, 1080, 1117, 1142, 1179, 1204, 1229, 1242, 1255, 1292, 1317, 1342, 1367, 1435, 1460, 1473, 1498, 1547, 1572, 1609, 1634, 1683, 1696, 1721, 1746, 1771], 204)) g25_ (by decide) (by decide) (by decide) (by decide) ?_
                                      exact eL_law_837 n L xs (fun a1 a2 a3 x4 S => cL_law_23 n L xs k S a1 a2 a3 x4) (fun a1 a2 a3 x4 S _ _ h => ih S a1 a2 a3 x4 _ _ h) S a1 a2 a3 x4 _ _ h
                                    · skip
                                      rcases rv_if_e h with ⟨g26_, h⟩ | ⟨g26_, h⟩
                                      · refine re_tabInE (pc := 40) (off := 834) 874 (by decide +kernel : decode cL_law 40 = .ok (.tableswitch 1796 0 46 #[204, 277, 302, 315, 328, 396, 464, 501, 538, 575, 612, 649, 674, 723, 748, 797, 834, 871, 944, 981, 1006, 1043, 1080, 1117, 1142, 1179, 1204, 1229, 1242, 1255, 1292, 1317, 1342, 1367, 1435, 1460, 1473, 1498, 1547, 1572, 1609, 1634, 1683, 1696, 1721, 1746, 1771], 204)) g26_ (by decide) (by decide) (by decide) (by decide) ?_
                                        exact eL_law_874 n L xs (fun a1 a2 a3 x4 S => cL_law_23 n L xs k S a1 a2 a3 x4) (fun a1 a2 a3 x4 S _ _ h => ih S a1 a2 a3 x4 _ _ h) S a1 a2 a3 x4 _ _ h
                                      · skip
                                        rcases rv_if_e h with ⟨g27_, h⟩ | ⟨g27_, h⟩
                                        · refine re_tabInE (pc := 40) (off := 871) 911 (by decide +kernel : decode cL_law 40 = .ok (.tableswitch 1796 0 46 #[204, 277, 302, 315, 328, 396, 464, 501, 538, 575, 612, 649, 674, 723, 748, 797, 834, 871, 944, 981, 1006, 1043, 1080, 1117, 1142, 1179, 1204, 1229, 1242, 1255, 1292, 1317, 1342, 1367, 1435, 1460, 1473, 1498, 1547, 1572, 1609, 1634, 1683, 1696, 1721, 1746, 1771], 204)) g27_ (by decide) (by decide) (by decide) (by decide) ?_
                                          exact eL_law_911 n L xs (fun a1 a2 a3 x4 S => cL_law_23 n L xs k S a1 a2 a3 x4) (fun a1 a2 a3 x4 S _ _ h => ih S a1 a2 a3 x4 _ _ h) S a1 a2 a3 x4 _ _ h
                                        · skip
                                          rcases rv_if_e h with ⟨g28_, h⟩ | ⟨g28_, h⟩
                                          · refine re_tabInE (pc := 40) (off := 944) 984 (by decide +kernel : decode cL_law 40 = .ok (.tableswitch 1796 0 46 #[204, 277, 302, 315, 328, 396, 464, 501, 538, 575, 612, 649, 674, 723, 748, 797, 834, 871, 944, 981, 1006, 1043, 1080, 1117, 1142, 1179, 1204, 1229, 1242, 1255, 1292, 1317, 1342, 1367, 1435, 1460, 1473, 1498, 1547, 1572, 1609, 1634, 1683, 1696, 1721, 1746, 1771], 204)) g28_ (by decide) (by decide) (by decide) (by decide) ?_
                                            exact eL_law_984 n L xs (fun a1 a2 a3 x4 S => cL_law_23 n L xs k S a1 a2 a3 x4) (fun a1 a2 a3 x4 S _ _ h => ih S a1 a2 a3 x4 _ _ h) S a1 a2 a3 x4 _ _ h
                                          · skip
                                            rcases rv_if_e h with ⟨g29_, h⟩ | ⟨g29_, h⟩
                                            · refine re_tabInE (pc := 40) (off := 981) 1021 (by decide +kernel : decode cL_law 40 = .ok (.tableswitch 1796 0 46 #[204, 277, 302, 315, 328, 396, 464, 501, 538, 575, 612, 649, 674, 723, 748, 797, 834, 871, 944, 981, 1006, 1043, 1080, 1117, 1142, 1179, 1204, 1229, 1242, 1255, 1292, 1317, 1342, 1367, 1435, 1460, 1473, 1498, 1547, 1572, 1609, 1634, 1683, 1696, 1721, 1746, 1771], 204)) g29_ (by decide) (by decide) (by decide) (by decide) ?_
                                              exact eL_law_1021 n L xs (fun a1 a2 a3 x4 S => cL_law_23 n L xs k S a1 a2 a3 x4) (fun a1 a2 a3 x4 S _ _ h => ih S a1 a2 a3 x4 _ _ h) S a1 a2 a3 x4 _ _ h
                                            · skip
                                              rcases rv_if_e h with ⟨g30_, h⟩ | ⟨g30_, h⟩
                                              · refine re_tabInE (pc := 40) (off := 1006) 1046 (by decide +kernel : decode cL_law 40 = .ok (.tableswitch 1796 0 46 #[204, 277, 302, 315, 328, 396, 464, 501, 538, 575, 612, 649, 674, 723, 748, 797, 834, 871, 944, 981, 1006, 1043, 1080, 1117, 1142, 1179, 1204, 1229, 1242, 1255, 1292, 1317, 1342, 1367, 1435, 1460, 1473, 1498, 1547, 1572, 1609, 1634, 1683, 1696, 1721, 1746, 1771], 204)) g30_ (by decide) (by decide) (by decide) (by decide) ?_
                                                exact eL_law_1046 n L xs (fun a1 a2 a3 x4 S => cL_law_23 n L xs k S a1 a2 a3 x4) (fun a1 a2 a3 x4 S _ _ h => ih S a1 a2 a3 x4 _ _ h) S a1 a2 a3 x4 _ _ h
                                              · skip
                                                rcases rv_if_e h with ⟨g31_, h⟩ | ⟨g31_, h⟩
                                                · refine re_tabInE (pc := 40) (off := 1043) 1083 (by decide +kernel : decode cL_law 40 = .ok (.tableswitch 1796 0 46 #[204, 277, 302, 315, 328, 396, 464, 501, 538, 575, 612, 649, 674, 723, 748, 797, 834, 871, 944, 981, 1006, 1043, 1080, 1117, 1142, 1179, 1204, 1229, 1242, 1255, 1292, 1317, 1342, 1367, 1435, 1460, 1473, 1498, 1547, 1572, 1609, 1634, 1683, 1696, 1721, 1746, 1771], 204)) g31_ (by decide) (by decide) (by decide) (by decide) ?_
                                                  exact eL_law_1083 n L xs (fun a1 a2 a3 x4 S => cL_law_23 n L xs k S a1 a2 a3 x4) (fun a1 a2 a3 x4 S _ _ h => ih S a1 a2 a3 x4 _ _ h) S a1 a2 a3 x4 _ _ h
                                                · skip
                                                  rcases rv_if_e h with ⟨g32_, h⟩ | ⟨g32_, h⟩
                                                  · refine re_tabInE (pc := 40) (off := 1080) 1120 (by decide +kernel : decode cL_law 40 = .ok (.tableswitch 1796 0 46 #[204, 277, 302, 315, 328, 396, 464, 501, 538, 575, 612, 649, 674, 723, 748, 797, 834, 871, 944, 981, 1006, 1043, 1080, 1117, 1142, 1179, 1204, 1229, 1242, 1255, 1292, 1317, 1342, 1367, 1435, 1460, 1473, 1498, 1547, 1572, 1609, 1634, 1683, 1696, 1721, 1746, 1771], 204)) g32_ (by decide) (by decide) (by decide) (by decide) ?_
                                                    exact eL_law_1120 n L xs (fun a1 a2 a3 x4 S => cL_law_23 n L xs k S a1 a2 a3 x4) (fun a1 a2 a3 x4 S _ _ h => ih S a1 a2 a3 x4 _ _ h) S a1 a2 a3 x4 _ _ h
                                                  · skip
                                                    rcases rv_if_e h with ⟨g33_, h⟩ | ⟨g33_, h⟩
                                                    · refine re_tabInE (pc := 40) (off := 1117) 1157 (by decide +kernel : decode cL_law 40 = .ok (.tableswitch 1796 0 46 #[204, 277, 302, 315, 328, 396, 464, 501, 538, 575, 612, 649, 674, 723, 748, 797, 834, 871, 944, 981, 1006, 1043, 1080, 1117, 1142, 1179, 1204, 1229, 1242, 1255, 1292, 1317, 1342, 1367, 1435, 1460, 1473, 1498, 1547, 1572, 1609, 1634, 1683, 1696, 1721, 1746, 1771], 204)) g33_ (by decide) (by decide) (by decide) (by decide) ?_
                                                      exact eL_law_1157 n L xs (fun a1 a2 a3 x4 S => cL_law_23 n L xs k S a1 a2 a3 x4) (fun a1 a2 a3 x4 S _ _ h => ih S a1 a2 a3 x4 _ _ h) S a1 a2 a3 x4 _ _ h
                                                    · skip
                                                      rcases rv_if_e h with ⟨g34_, h⟩ | ⟨g34_, h⟩
                                                      · refine re_tabInE (pc := 40) (off := 1142) 1182 (by decide +kernel : decode cL_law 40 = .ok (.tableswitch 1796 0 46 #[204, 277, 302, 315, 328, 396, 464, 501, 538, 575, 612, 649, 674, 723, 748, 797, 834, 871, 944, 981, 1006, 1043, 1080, 1117, 1142, 1179, 1204, 1229, 1242, 1255, 1292, 1317, 1342, 1367, 1435, 1460, 1473, 1498, 1547, 1572, 1609, 1634, 1683, 1696, 1721, 1746, 1771], 204)) g34_ (by decide) (by decide) (by decide) (by decide) ?_
                                                        exact eL_law_1182 n L xs (fun a1 a2 a3 x4 S => cL_law_23 n L xs k S a1 a2 a3 x4) (fun a1 a2 a3 x4 S _ _ h => ih S a1 a2 a3 x4 _ _ h) S a1 a2 a3 x4 _ _ h
                                                      · skip
                                                        rcases rv_if_e h with ⟨g35_, h⟩ | ⟨g35_, h⟩
                                                        · refine re_tabInE (pc := 40) (off := 1179) 1219 (by decide +kernel : decode cL_law 40 = .ok (.tableswitch 1796 0 46 #[204, 277, 302, 315, 328, 396, 464, 501, 538, 575, 612, 649, 674, 723, 748, 797, 834, 871, 944, 981, 1006, 1043, 1080, 1117, 1142, 1179, 1204, 1229, 1242, 1255, 1292, 1317, 1342, 1367, 1435, 1460, 1473, 1498, 1547, 1572, 1609, 1634, 1683, 1696, 1721, 1746, 1771], 204)) g35_ (by decide) (by decide) (by decide) (by decide) ?_
                                                          exact eL_law_1219 n L xs (fun a1 a2 a3 x4 S => cL_law_23 n L xs k S a1 a2 a3 x4) (fun a1 a2 a3 x4 S _ _ h => ih S a1 a2 a3 x4 _ _ h) S a1 a2 a3 x4 _ _ h
                                                        · skip
                                                          rcases rv_if_e h with ⟨g36_, h⟩ | ⟨g36_, h⟩
                                                          · refine re_tabInE (pc := 40) (off := 1204) 1244 (by decide +kernel : decode cL_law 40 = .ok (.tableswitch 1796 0 46 #[204, 277, 302, 315, 328, 396, 464, 501, 538, 575, 612, 649, 674, 723, 748, 797, 834, 871, 944, 981, 1006, 1043, 1080, 1117, 1142, 1179, 1204, 1229, 1242, 1255, 1292, 1317, 1342, 1367, 1435, 1460, 1473, 1498, 1547, 1572, 1609, 1634, 1683, 1696, 1721, 1746, 1771], 204)) g36_ (by decide) (by decide) (by decide) (by decide) ?_
                                                            exact eL_law_1244 n L xs (fun a1 a2 a3 x4 S => cL_law_23 n L xs k S a1 a2 a3 x4) (fun a1 a2 a3 x4 S _ _ h => ih S a1 a2 a3 x4 _ _ h) S a1 a2 a3 x4 _ _ h
                                                          · skip
                                                            rcases rv_if_e h with ⟨g37_, h⟩ | ⟨g37_, h⟩
                                                            · refine re_tabInE (pc := 40) (off := 1229) 1269 (by decide +kernel : decode cL_law 40 = .ok (.tableswitch 1796 0 46 #[204, 277, 302, 315, 328, 396, 464, 501, 538, 575, 612, 649, 674, 723, 748, 797, 834, 871, 944, 981, 1006, 1043, 1080, 1117, 1142, 1179, 1204, 1229, 1242, 1255, 1292, 1317, 1342, 1367, 1435, 1460, 1473, 1498, 1547, 1572, 1609, 1634, 1683, 1696, 1721, 1746, 1771], 204)) g37_ (by decide) (by decide) (by decide) (by decide) ?_
                                                              exact eL_law_1269 n L xs (fun a1 a2 a3 x4 S => cL_law_23 n L xs k S a1 a2 a3 x4) (fun a1 a2 a3 x4 S _ _ h => ih S a1 a2 a3 x4 _ _ h) S a1 a2 a3 x4 _ _ h
                                                            · skip
                                                              rcases rv_if_e h with ⟨g38_, h⟩ | ⟨g38_, h⟩
                                                              · refine re_tabInE (pc := 40) (off := 1242) 1282 (by decide +kernel : decode cL_law 40 = .ok (.tableswitch 1796 0 46 #[204, 277, 302, 315, 328, 396, 464, 501, 538, 575, 612, 649, 674, 723, 748, 797, 834, 871, 944, 981, 1006, 1043, 1080, 1117, 1142, 1179, 1204, 1229, 1242, 1255, 1292, 1317, 1342, 1367, 1435, 1460, 1473, 1498, 1547, 1572, 1609, 1634, 1683, 1696, 1721, 1746, 1771], 204)) g38_ (by decide) (by decide) (by decide) (by decide) ?_
                                                                exact eL_law_1282 n L xs (fun a1 a2 a3 x4 S => cL_law_23 n L xs k S a1 a2 a3 x4) (fun a1 a2 a3 x4 S _ _ h => ih S a1 a2 a3 x4 _ _ h) S a1 a2 a3 x4 _ _ h
                                                              · skip
                                                                rcases rv_if_e h with ⟨g39_, h⟩ | ⟨g39_, h⟩
                                                                · refine re_tabInE (pc := 40) (off := 1255) 1295 (by decide +kernel : decode cL_law 40 = .ok (.tableswitch 1796 0 46 #[204, 277, 302, 315, 328, 396, 464, 501, 538, 575, 612, 649, 674, 723, 748, 797, 834, 871, 944, 981, 1006, 1043, 1080, 1117, 1142, 1179, 1204, 1229, 1242, 1255, 1292, 1317, 1342, 1367, 1435, 1460, 1473, 1498, 1547, 1572, 1609, 1634, 1683, 1696, 1721, 1746, 1771], 204)) g39_ (by decide) (by decide) (by decide) (by decide) ?_
                                                                  exact eL_law_1295 n L xs (fun a1 a2 a3 x4 S => cL_law_23 n L xs k S a1 a2 a3 x4) (fun a1 a2 a3 x4 S _ _ h => ih S a1 a2 a3 x4 _ _ h) S a1 a2 a3 x4 _ _ h
                                                                · skip
                                                                  rcases rv_if_e h with ⟨g40_, h⟩ | ⟨g40_, h⟩
                                                                  · refine re_tabInE (pc := 40) (off := 1292) 1332 (by decide +kernel : decode cL_law 40 = .ok (.tableswitch 1796 0 46 #[204, 277, 302, 315, 328, 396, 464, 501, 538, 575, 612, 649, 674, 723, 748, 797, 834, 871, 944, 981, 1006, 1043, 1080, 1117, 1142, 1179, 1204, 1229, 1242, 1255, 1292, 1317, 1342, 1367, 1435, 1460, 1473, 1498, 1547, 1572, 1609, 1634, 1683, 1696, 1721, 1746, 1771], 204)) g40_ (by decide) (by decide) (by decide) (by decide) ?_
                                                                    exact eL_law_1332 n L xs (fun a1 a2 a3 x4 S => cL_law_23 n L xs k S a1 a2 a3 x4) (fun a1 a2 a3 x4 S _ _ h => ih S a1 a2 a3 x4 _ _ h) S a1 a2 a3 x4 _ _ h
                                                                  · skip
                                                                    rcases rv_if_e h with ⟨g41_, h⟩ | ⟨g41_, h⟩
                                                                    · refine re_tabInE (pc := 40) (off := 1317) 1357 (by decide +kernel : decode cL_law 40 = .ok (.tableswitch 1796 0 46 #[204, 277, 302, 315, 328, 396, 464, 501, 538, 575, 612, 649, 674, 723, 748, 797, 834, 871, 944, 981, 1006, 1043, 1080, 1117, 1142, 1179, 1204, 1229, 1242, 1255, 1292, 1317, 1342, 1367, 1435, 1460, 1473, 1498, 1547, 1572, 1609, 1634, 1683, 1696, 1721, 1746, 1771], 204)) g41_ (by decide) (by decide) (by decide) (by decide) ?_
                                                                      exact eL_law_1357 n L xs (fun a1 a2 a3 x4 S => cL_law_23 n L xs k S a1 a2 a3 x4) (fun a1 a2 a3 x4 S _ _ h => ih S a1 a2 a3 x4 _ _ h) S a1 a2 a3 x4 _ _ h
                                                                    · skip
                                                                      rcases rv_if_e h with ⟨g42_, h⟩ | ⟨g42_, h⟩
                                                                      · refine re_tabInE (pc := 40) (off := 1342) 1382 (by decide +kernel : decode cL_law 40 = .ok (.tableswitch 1796 0 46 #[204, 277, 302, 315, 328, 396, 464, 501, 538, 575, 612, 649, 674, 723, 748, 797, 834, 871, 944, 981, 1006, 1043, 1080, 1117, 1142, 1179, 1204, 1229, 1242, 1255, 1292, 1317, 1342, 1367, 1435, 1460, 1473, 1498, 1547, 1572, 1609, 1634, 1683, 1696, 1721, 1746, 1771], 204)) g42_ (by decide) (by decide) (by decide) (by decide) ?_
                                                                        exact eL_law_1382 n L xs (fun a1 a2 a3 x4 S => cL_law_23 n L xs k S a1 a2 a3 x4) (fun a1 a2 a3 x4 S _ _ h => ih S a1 a2 a3 x4 _ _ h) S a1 a2 a3 x4 _ _ h
                                                                      · skip
                                                                        rcases rv_if_e h with ⟨g43_, h⟩ | ⟨g43_, h⟩
                                                                        · refine re_tabInE (pc := 40) (off := 1367) 1407 (by decide +kernel : decode cL_law 40 = .ok (.tableswitch 1796 0 46 #[204, 277, 302, 315, 328, 396, 464, 501, 538, 575, 612, 649, 674, 723, 748, 797, 834, 871, 944, 981, 1006, 1043, 1080, 1117, 1142, 1179, 1204, 1229, 1242, 1255, 1292, 1317, 1342, 1367, 1435, 1460, 1473, 1498, 1547, 1572, 1609, 1634, 1683, 1696, 1721, 1746, 1771], 204)) g43_ (by decide) (by decide) (by decide) (by decide) ?_
                                                                          exact eL_law_1407 n L xs (fun a1 a2 a3 x4 S => cL_law_23 n L xs k S a1 a2 a3 x4) (fun a1 a2 a3 x4 S _ _ h => ih S a1 a2 a3 x4 _ _ h) S a1 a2 a3 x4 _ _ h
                                                                        · skip
                                                                          rcases rv_if_e h with ⟨g44_, h⟩ | ⟨g44_, h⟩
                                                                          · refine re_tabInE (pc := 40) (off := 1435) 1475 (by decide +kernel : decode cL_law 40 = .ok (.tableswitch 1796 0 46 #[204, 277, 302, 315, 328, 396, 464, 501, 538, 575, 612, 649, 674, 723, 748, 797, 834, 871, 944, 981, 1006, 1043, 1080, 1117, 1142, 1179, 1204, 1229, 1242, 1255, 1292, 1317, 1342, 1367, 1435, 1460, 1473, 1498, 1547, 1572, 1609, 1634, 1683, 1696, 1721, 1746, 1771], 204)) g44_ (by decide) (by decide) (by decide) (by decide) ?_
                                                                            exact eL_law_1475 n L xs (fun a1 a2 a3 x4 S => cL_law_23 n L xs k S a1 a2 a3 x4) (fun a1 a2 a3 x4 S _ _ h => ih S a1 a2 a3 x4 _ _ h) S a1 a2 a3 x4 _ _ h
                                                                          · skip
                                                                            rcases rv_if_e h with ⟨g45_, h⟩ | ⟨g45_, h⟩
                                                                            · refine re_tabInE (pc := 40) (off := 1460) 1500 (by decide +kernel : decode cL_law 40 = .ok (.tableswitch 1796 0 46 #[204, 277, 302, 315, 328, 396, 464, 501, 538, 575, 612, 649, 674, 723, 748, 797, 834, 871, 944, 981, 1006, 1043, 1080, 1117, 1142, 1179, 1204, 1229, 1242, 1255, 1292, 1317, 1342, 1367, 1435, 1460, 1473, 1498, 1547, 1572, 1609, 1634, 1683, 1696, 1721, 1746, 1771], 204)) g45_ (by decide) (by decide) (by decide) (by decide) ?_
                                                                              exact eL_law_1500 n L xs (fun a1 a2 a3 x4 S => cL_law_23 n L xs k S a1 a2 a3 x4) (fun a1 a2 a3 x4 S _ _ h => ih S a1 a2 a3 x4 _ _ h) S a1 a2 a3 x4 _ _ h
                                                                            · skip
                                                                              rcases rv_if_e h with ⟨g46_, h⟩ | ⟨g46_, h⟩
                                                                              · refine re_tabInE (pc := 40) (off := 1473) 1513 (by decide +kernel : decode cL_law 40 = .ok (.tableswitch 1796 0 46 #[204, 277, 302, 315, 328, 396, 464, 501, 538, 575, 612, 649, 674, 723, 748, 797, 834, 871, 944, 981, 1006, 1043, 1080, 1117, 1142, 1179, 1204, 1229, 1242, 1255, 1292, 1317, 1342, 1367, 1435, 1460, 1473, 1498, 1547, 1572, 1609, 1634, 1683, 1696, 1721, 1746, 1771], 204)) g46_ (by decide) (by decide) (by decide) (by decide) ?_
                                                                                exact eL_law_1513 n L xs (fun a1 a2 a3 x4 S => cL_law_23 n L xs k S a1 a2 a3 x4) (fun a1 a2 a3 x4 S _ _ h => ih S a1 a2 a3 x4 _ _ h) S a1 a2 a3 x4 _ _ h
                                                                              · skip
                                                                                rcases rv_if_e h with ⟨g47_, h⟩ | ⟨g47_, h⟩
                                                                                · refine re_tabInE (pc := 40) (off := 1498) 1538 (by decide +kernel : decode cL_law 40 = .ok (.tableswitch 1796 0 46 #[204, 277, 302, 315, 328, 396, 464, 501, 538, 575, 612, 649, 674, 723, 748, 797, 834, 871, 944, 981, 1006, 1043, 1080, 1117, 1142, 1179, 1204, 1229, 1242, 1255, 1292, 1317, 1342, 1367, 1435, 1460, 1473, 1498, 1547, 1572, 1609, 1634, 1683, 1696, 1721, 1746, 1771], 204)) g47_ (by decide) (by decide) (by decide) (by decide) ?_
                                                                                  exact eL_law_1538 n L xs (fun a1 a2 a3 x4 S => cL_law_23 n L xs k S a1 a2 a3 x4) (fun a1 a2 a3 x4 S _ _ h => ih S a1 a2 a3 x4 _ _ h) S a1 a2 a3 x4 _ _ h
                                                                                · skip
                                                                                  rcases rv_if_e h with ⟨g48_, h⟩ | ⟨g48_, h⟩
                                                                                  · refine re_tabInE (pc := 40) (off := 1547) 1587 (by decide +kernel : decode cL_law 40 = .ok (.tableswitch 1796 0 46 #[204, 277, 302, 315, 328, 396, 464, 501, 538, 575, 612, 649, 674, 723, 748, 797, 834, 871, 944, 981, 1006, 1043, 1080, 1117, 1142, 1179, 1204, 1229, 1242, 1255, 1292, 1317, 1342, 1367, 1435, 1460, 1473, 1498, 1547, 1572, 1609, 1634, 1683, 1696, 1721, 1746, 1771], 204)) g48_ (by decide) (by decide) (by decide) (by decide) ?_
                                                                                    exact eL_law_1587 n L xs (fun a1 a2 a3 x4 S => cL_law_23 n L xs k S a1 a2 a3 x4) (fun a1 a2 a3 x4 S _ _ h => ih S a1 a2 a3 x4 _ _ h) S a1 a2 a3 x4 _ _ h
                                                                                  · skip
                                                                                    rcases rv_if_e h with ⟨g49_, h⟩ | ⟨g49_, h⟩
                                                                                    · refine re_tabInE (pc := 40) (off := 1572) 1612 (by decide +kernel : decode cL_law 40 = .ok (.tableswitch 1796 0 46 #[204, 277, 302, 315, 328, 396, 464, 501, 538, 575, 612, 649, 674, 723, 748, 797, 834, 871, 944, 981, 1006, 1043, 1080, 1117, 1142, 1179, 1204, 1229, 1242, 1255, 1292, 1317, 1342, 1367, 1435, 1460, 1473, 1498, 1547, 1572, 1609, 1634, 1683, 1696, 1721, 1746, 1771], 204)) g49_ (by decide) (by decide) (by decide) (by decide) ?_
                                                                                      exact eL_law_1612 n L xs (fun a1 a2 a3 x4 S => cL_law_23 n L xs k S a1 a2 a3 x4) (fun a1 a2 a3 x4 S _ _ h => ih S a1 a2 a3 x4 _ _ h) S a1 a2 a3 x4 _ _ h
                                                                                    · skip
                                                                                      rcases rv_if_e h with ⟨g50_, h⟩ | ⟨g50_, h⟩
                                                                                      · refine re_tabInE (pc := 40) (off := 1609) 1649 (by decide +kernel : decode cL_law 40 = .ok (.tableswitch 1796 0 46 #[204, 277, 302, 315, 328, 396, 464, 501, 538, 575, 612, 649, 674, 723, 748, 797, 834, 871, 944, 981, 1006, 1043, 1080, 1117, 1142, 1179, 1204, 1229, 1242, 1255, 1292, 1317, 1342, 1367, 1435, 1460, 1473, 1498, 1547, 1572, 1609, 1634, 1683, 1696, 1721, 1746, 1771], 204)) g50_ (by decide) (by decide) (by decide) (by decide) ?_
                                                                                        exact eL_law_1649 n L xs (fun a1 a2 a3 x4 S => cL_law_23 n L xs k S a1 a2 a3 x4) (fun a1 a2 a3 x4 S _ _ h => ih S a1 a2 a3 x4 _ _ h) S a1 a2 a3 x4 _ _ h
                                                                                      · skip
                                                                                        rcases rv_if_e h with ⟨g51_, h⟩ | ⟨g51_, h⟩
                                                                                        · refine re_tabInE (pc := 40) (off := 1634) 1674 (by decide +kernel : decode cL_law 40 = .ok (.tableswitch 1796 0 46 #[204, 277, 302, 315, 328, 396, 464, 501, 538, 575, 612, 649, 674, 723, 748, 797, 834, 871, 944, 981, 1006, 1043, 1080, 1117, 1142, 1179, 1204, 1229, 1242, 1255, 1292, 1317, 1342, 1367, 1435, 1460, 1473, 1498, 1547, 1572, 1609, 1634, 1683, 1696, 1721, 1746, 1771], 204)) g51_ (by decide) (by decide) (by decide) (by decide) ?_
                                                                                          exact eL_law_1674 n L xs (fun a1 a2 a3 x4 S => cL_law_23 n L xs k S a1 a2 a3 x4) (fun a1 a2 a3 x4 S _ _ h => ih S a1 a2 a3 x4 _ _ h) S a1 a2 a3 x4 _ _ h
                                                                                        · skip
                                                                                          rcases rv_if_e h with ⟨g52_, h⟩ | ⟨g52_, h⟩
                                                                                          · refine re_tabInE (pc := 40) (off := 1683) 1723 (by decide +kernel : decode cL_law 40 = .ok (.tableswitch 1796 0 46 #[204, 277, 302, 315, 328, 396, 464, 501, 538, 575, 612, 649, 674, 723, 748, 797, 834, 871, 944, 981, 1006, 1043, 1080, 1117, 1142, 1179, 1204, 1229, 1242, 1255, 1292, 1317, 1342, 1367, 1435, 1460, 1473, 1498, 1547, 1572, 1609, 1634, 1683, 1696, 1721, 1746, 1771], 204)) g52_ (by decide) (by decide) (by decide) (by decide) ?_
                                                                                            exact eL_law_1723 n L xs (fun a1 a2 a3 x4 S => cL_law_23 n L xs k S a1 a2 a3 x4) (fun a1 a2 a3 x4 S _ _ h => ih S a1 a2 a3 x4 _ _ h) S a1 a2 a3 x4 _ _ h
                                                                                          · skip
                                                                                            rcases rv_if_e h with ⟨g53_, h⟩ | ⟨g53_, h⟩
                                                                                            · refine re_tabInE (pc := 40) (off := 1696) 1736 (by decide +kernel : decode cL_law 40 = .ok (.tableswitch 1796 0 46 #[204, 277, 302, 315, 328, 396, 464, 501, 538, 575, 612, 649, 674, 723, 748, 797, 834, 871, 944, 981, 1006, 1043, 1080, 1117, 1142, 1179, 1204, 1229, 1242, 1255, 1292, 1317, 1342, 1367, 1435, 1460, 1473, 1498, 1547, 1572, 1609, 1634, 1683, 1696, 1721, 1746, 1771], 204)) g53_ (by decide) (by decide) (by decide) (by decide) ?_
                                                                                              exact eL_law_1736 n L xs (fun a1 a2 a3 x4 S => cL_law_23 n L xs k S a1 a2 a3 x4) (fun a1 a2 a3 x4 S _ _ h => ih S a1 a2 a3 x4 _ _ h) S a1 a2 a3 x4 _ _ h
                                                                                            · skip
                                                                                              rcases rv_if_e h with ⟨g54_, h⟩ | ⟨g54_, h⟩
                                                                                              · refine re_tabInE (pc := 40) (off := 1721) 1761 (by decide +kernel : decode cL_law 40 = .ok (.tableswitch 1796 0 46 #[204, 277, 302, 315, 328, 396, 464, 501, 538, 575, 612, 649, 674, 723, 748, 797, 834, 871, 944, 981, 1006, 1043, 1080, 1117, 1142, 1179, 1204, 1229, 1242, 1255, 1292, 1317, 1342, 1367, 1435, 1460, 1473, 1498, 1547, 1572, 1609, 1634, 1683, 1696, 1721, 1746, 1771], 204)) g54_ (by decide) (by decide) (by decide) (by decide) ?_
                                                                                                exact eL_law_1761 n L xs (fun a1 a2 a3 x4 S => cL_law_23 n L xs k S a1 a2 a3 x4) (fun a1 a2 a3 x4 S _ _ h => ih S a1 a2 a3 x4 _ _ h) S a1 a2 a3 x4 _ _ h
                                                                                              · skip
                                                                                                rcases rv_if_e h with ⟨g55_, h⟩ | ⟨g55_, h⟩
                                                                                                · refine re_tabInE (pc := 40) (off := 1746) 1786 (by decide +kernel : decode cL_law 40 = .ok (.tableswitch 1796 0 46 #[204, 277, 302, 315, 328, 396, 464, 501, 538, 575, 612, 649, 674, 723, 748, 797, 834, 871, 944, 981, 1006, 1043, 1080, 1117, 1142, 1179, 1204, 1229, 1242, 1255, 1292, 1317, 1342, 1367, 1435, 1460, 1473, 1498, 1547, 1572, 1609, 1634, 1683, 1696, 1721, 1746, 1771], 204)) g55_ (by decide) (by decide) (by decide) (by decide) ?_
                                                                                                  exact eL_law_1786 n L xs (fun a1 a2 a3 x4 S => cL_law_23 n L xs k S a1 a2 a3 x4) (fun a1 a2 a3 x4 S _ _ h => ih S a1 a2 a3 x4 _ _ h) S a1 a2 a3 x4 _ _ h
                                                                                                · skip
                                                                                                  rcases rv_if_e h with ⟨g56_, h⟩ | ⟨g56_, h⟩
                                                                                                  · refine re_tabInE (pc := 40) (off := 1771) 1811 (by decide +kernel : decode cL_law 40 = .ok (.tableswitch 1796 0 46 #[204, 277, 302, 315, 328, 396, 464, 501, 538, 575, 612, 649, 674, 723, 748, 797, 834, 871, 944, 981, 1006, 1043, 1080, 1117, 1142, 1179, 1204, 1229, 1242, 1255, 1292, 1317, 1342, 1367, 1435, 1460, 1473, 1498, 1547, 1572, 1609, 1634, 1683, 1696, 1721, 1746, 1771], 204)) g56_ (by decide) (by decide) (by decide) (by decide) ?_
                                                                                                    exact eL_law_1811 n L xs (fun a1 a2 a3 x4 S => cL_law_23 n L xs k S a1 a2 a3 x4) (fun a1 a2 a3 x4 S _ _ h => ih S a1 a2 a3 x4 _ _ h) S a1 a2 a3 x4 _ _ h
                                                                                                  · skip
                                                                                                    refine re_tabOut (pc := 40) (dflt := 1796) 1836 (by decide +kernel : decode cL_law 40 = .ok (.tableswitch 1796 0 46 #[204, 277, 302, 315, 328, 396, 464, 501, 538, 575, 612, 649, 674, 723, 748, 797, 834, 871, 944, 981, 1006, 1043, 1080, 1117, 1142, 1179, 1204, 1229, 1242, 1255, 1292, 1317, 1342, 1367, 1435, 1460, 1473, 1498, 1547, 1572, 1609, 1634, 1683, 1696, 1721, 1746, 1771], 204)) (by have z0_ := lv_neT g10_ (a := 0) (by decide); have z1_ := lv_neT g11_ (a := 1) (by decide); have z2_ := lv_neT g12_ (a := 2) (by decide); have z3_ := lv_neT g13_ (a := 3) (by decide); have z4_ := lv_neT g14_ (a := 4) (by decide); have z5_ := lv_neT g15_ (a := 5) (by decide); have z6_ := lv_neT g16_ (a := 6) (by decide); have z7_ := lv_neT g17_ (a := 7) (by decide); have z8_ := lv_neT g18_ (a := 8) (by decide); have z9_ := lv_neT g19_ (a := 9) (by decide); have z10_ := lv_neT g20_ (a := 10) (by decide); have z11_ := lv_neT g21_ (a := 11) (by decide); have z12_ := lv_neT g22_ (a := 12) (by decide); have z13_ := lv_neT g23_ (a := 13) (by decide); have z14_ := lv_neT g24_ (a := 14) (by decide); have z15_ := lv_neT g25_ (a := 15) (by decide); have z16_ := lv_neT g26_ (a := 16) (by decide); have z17_ := lv_neT g27_ (a := 17) (by decide); have z18_ := lv_neT g28_ (a := 18) (by decide); have z19_ := lv_neT g29_ (a := 19) (by decide); have z20_ := lv_neT g30_ (a := 20) (by decide); have z21_ := lv_neT g31_ (a := 21) (by decide); have z22_ := lv_neT g32_ (a := 22) (by decide); have z23_ := lv_neT g33_ (a := 23) (by decide); have z24_ := lv_neT g34_ (a := 24) (by decide); have z25_ := lv_neT g35_ (a := 25) (by decide); have z26_ := lv_neT g36_ (a := 26) (by decide); have z27_ := lv_neT g37_ (a := 27) (by decide); have z28_ := lv_neT g38_ (a := 28) (by decide); have z29_ := lv_neT g39_ (a := 29) (by decide); have z30_ := lv_neT g40_ (a := 30) (by decide); have z31_ := lv_neT g41_ (a := 31) (by decide); have z32_ := lv_neT g42_ (a := 32) (by decide); have z33_ := lv_neT g43_ (a := 33) (by decide); have z34_ := lv_neT g44_ (a := 34) (by decide); have z35_ := lv_neT g45_ (a := 35) (by decide); have z36_ := lv_neT g46_ (a := 36) (by decide); have z37_ := lv_neT g47_ (a := 37) (by decide); have z38_ := lv_neT g48_ (a := 38) (by decide); have z39_ := lv_neT g49_ (a := 39) (by decide); have z40_ := lv_neT g50_ (a := 40) (by decide); have z41_ := lv_neT g51_ (a := 41) (by decide); have z42_ := lv_neT g52_ (a := 42) (by decide); have z43_ := lv_neT g53_ (a := 43) (by decide); have z44_ := lv_neT g54_ (a := 44) (by decide); have z45_ := lv_neT g55_ (a := 45) (by decide); have z46_ := lv_neT g56_ (a := 46) (by decide); omega) (by decide) ?_
                                                                                                    obtain ⟨x57_, g58_, h⟩ := rv_lt_e h
                                                                                                    refine re_iinc (pc := 1836) 4 x57_ (lv1 := [(4, .int x57_), (0, .ref 25), (1, .ref a1), (2, .ref a2), (3, .ref a3)]) (by decide +kernel : decode cL_law 1836 = .ok (.iinc 4 6, 3)) rfl g58_ (Nat.le_of_ble_eq_true rfl) rfl ?_
                                                                                                    refine re_goto (pc := 1839) 23 (by decide +kernel : decode cL_law 1839 = .ok (.goto (-1816), 3)) (by decide) ?_
                                                                                                    refine re_sub [1, 2, 3, 4, 0] (lv1 := [(0, .ref 25), (1, .ref a1), (2, .ref a2), (3, .ref a3), (4, .int x57_)]) rfl ?_
                                                                                                    exact ih S a1 a2 a3 x57_ _ _ h
noncomputable def fnL_law (n : Nat) (L : Nat) (xs : Nat → Int32) (S : rvS) : Option (Int32 × rvS) :=
  rv_lt (64 + S.1.length) fun a1_ =>
  rv_lt (rv_new S (10, rv_N 10)) fun S3_ =>
  (fnX12_init n S3_ a1_).bind fun S7_ =>
  rv_lt (64 + S7_.1.length) fun a10_ =>
  rv_lt (rv_new S7_ (11, rv_N 11)) fun S12_ =>
  (fnX13_init n S12_ a10_).bind fun S17_ =>
  rv_lt (64 + S17_.1.length) fun a21_ =>
  rv_lt (rv_new S17_ (51, 1)) fun S23_ =>
  cL_law_23 n L xs n S23_ a1_ a10_ a21_ (0 : Int32)
set_option maxRecDepth 20000 in
set_option maxHeartbeats 4000000 in
theorem eL_law_in (n : Nat) (L : Nat) (xs : Nat → Int32) (S : rvS) (r : Int32) (S' : rvS) (h : fnL_law n L xs S = some (r, S')) : rv_Ev (mL_law L xs) 200 0 [(0, .ref 25)] [] S (some (.int r)) S' := by
  unfold fnL_law at h
  refine re_new (pc := 0) (c := 10) rfl (rv_alv (List.forall_mem_cons.mpr ⟨(rv_lo (by decide)), (fun _ z => absurd z List.not_mem_nil)⟩)) ((fun _ z => absurd z List.not_mem_nil)) (by decide) (rw1 23 (w := Cond.classLink RL 8 (rv_R 10)) (by decide +kernel) rfl) (rw1 24 (by decide +kernel) rfl) (rw1 1 (by decide +kernel) rfl) (by decide +kernel : decode cL_law 0 = .ok (.new 8, 3)) ?_
  obtain ⟨a1_, g2_, h⟩ := rv_lt_e h
  refine re_nR g2_ ?_
  obtain ⟨S3_, g4_, h⟩ := rv_lt_e h
  refine re_nS g4_ ?_
  have o5_ : a1_ < 64 + S3_.1.length := by rw [← g2_]; exact rv_okn0 g4_
  refine re_dup (pc := 3) (by decide +kernel : decode cL_law 3 = .ok (.dup, 1)) rfl ?_
  obtain ⟨S7_, g8_, h⟩ := rv_b_e h
  have m6_ := metX12_init n S3_ a1_ _ g8_
  have o9_ : a1_ < 64 + S7_.1.length := Nat.lt_of_lt_of_le o5_ (Nat.add_le_add_left m6_.1.2.1 64)
  refine re_cI (pc := 4) (st := [.ref a1_]) [] m6_ (rv_okl.n (rv_alv (List.forall_mem_cons.mpr ⟨(rv_lo (by decide)), (fun _ z => absurd z List.not_mem_nil)⟩)) ((List.forall_mem_cons.mpr ⟨o5_, (fun _ z => absurd z List.not_mem_nil)⟩))) ⟨fun z => absurd (show true = false from z) (by decide), m6_.1.2⟩ (by decide) (Nat.le_of_ble_eq_true rfl) lIL_21 rfl (by decide +kernel : decode cL_law 4 = .ok (.invokespecial 21, 3)) ?_
  refine re_astoren (pc := 7) (lv1 := [(1, .ref a1_), (0, .ref 25)]) (by decide +kernel : decode cL_law 7 = .ok (.astore_n 1, 1)) rfl (Nat.le_of_ble_eq_true rfl) rfl ?_
  refine re_new (pc := 8) (c := 11) rfl (rv_alv (List.forall_mem_cons.mpr ⟨o9_, (List.forall_mem_cons.mpr ⟨(rv_lo (by decide)), (fun _ z => absurd z List.not_mem_nil)⟩)⟩)) ((fun _ z => absurd z List.not_mem_nil)) (by decide) (rw6 226 (w := Cond.classLink RL 22 (rv_R 11)) (by decide +kernel) rfl) (rw6 227 (by decide +kernel) rfl) (rw1 13 (by decide +kernel) rfl) (by decide +kernel : decode cL_law 8 = .ok (.new 22, 3)) ?_
  obtain ⟨a10_, g11_, h⟩ := rv_lt_e h
  refine re_nR g11_ ?_
  obtain ⟨S12_, g13_, h⟩ := rv_lt_e h
  refine re_nS g13_ ?_
  have o14_ : a1_ < 64 + S12_.1.length := rv_okn g13_ o9_
  have o15_ : a10_ < 64 + S12_.1.length := by rw [← g11_]; exact rv_okn0 g13_
  refine re_dup (pc := 11) (by decide +kernel : decode cL_law 11 = .ok (.dup, 1)) rfl ?_
  obtain ⟨S17_, g18_, h⟩ := rv_b_e h
  have m16_ := metX13_init n S12_ a10_ _ g18_
  have o19_ : a1_ < 64 + S17_.1.length := Nat.lt_of_lt_of_le o14_ (Nat.add_le_add_left m16_.1.2.1 64)
  have o20_ : a10_ < 64 + S17_.1.length := Nat.lt_of_lt_of_le o15_ (Nat.add_le_add_left m16_.1.2.1 64)
  refine re_cI (pc := 12) (st := [.ref a10_]) [] m16_ (rv_okl.n (rv_alv (List.forall_mem_cons.mpr ⟨o14_, (List.forall_mem_cons.mpr ⟨(rv_lo (by decide)), (fun _ z => absurd z List.not_mem_nil)⟩)⟩)) ((List.forall_mem_cons.mpr ⟨o15_, (fun _ z => absurd z List.not_mem_nil)⟩))) ⟨fun z => absurd (show true = false from z) (by decide), m16_.1.2⟩ (by decide) (Nat.le_of_ble_eq_true rfl) lIL_24 rfl (by decide +kernel : decode cL_law 12 = .ok (.invokespecial 24, 3)) ?_
  refine re_astoren (pc := 15) (lv1 := [(2, .ref a10_), (1, .ref a1_), (0, .ref 25)]) (by decide +kernel : decode cL_law 15 = .ok (.astore_n 2, 1)) rfl (Nat.le_of_ble_eq_true rfl) rfl ?_
  refine re_iconst (pc := 16) (1 : Int32) (by decide +kernel : decode cL_law 16 = .ok (.iconst 1, 1)) (by decide) ?_
  refine re_newa (pc := 17) (t := 1) (N := 1) rfl (rv_alv (List.forall_mem_cons.mpr ⟨o20_, (List.forall_mem_cons.mpr ⟨o19_, (List.forall_mem_cons.mpr ⟨(rv_lo (by decide)), (fun _ z => absurd z List.not_mem_nil)⟩)⟩)⟩)) ((fun _ z => absurd z List.not_mem_nil)) (by decide) rfl (rw1 138 (by decide +kernel) rfl) (by decide) (by decide) (by decide) (by decide +kernel : decode cL_law 17 = .ok (.newarray .long, 2)) ?_
  obtain ⟨a21_, g22_, h⟩ := rv_lt_e h
  refine re_nR g22_ ?_
  obtain ⟨S23_, g24_, h⟩ := rv_lt_e h
  refine re_nS g24_ ?_
  have o25_ : a1_ < 64 + S23_.1.length := rv_okn g24_ o19_
  have o26_ : a10_ < 64 + S23_.1.length := rv_okn g24_ o20_
  have o27_ : a21_ < 64 + S23_.1.length := by rw [← g22_]; exact rv_okn0 g24_
  refine re_astoren (pc := 19) (lv1 := [(3, .ref a21_), (2, .ref a10_), (1, .ref a1_), (0, .ref 25)]) (by decide +kernel : decode cL_law 19 = .ok (.astore_n 3, 1)) rfl (Nat.le_of_ble_eq_true rfl) rfl ?_
  refine re_iconst (pc := 20) (0 : Int32) (by decide +kernel : decode cL_law 20 = .ok (.iconst 0, 1)) (by decide) ?_
  refine re_istore (pc := 21) (lv1 := [(4, .int (0 : Int32)), (3, .ref a21_), (2, .ref a10_), (1, .ref a1_), (0, .ref 25)]) (by decide +kernel : decode cL_law 21 = .ok (.istore 4, 2)) (Nat.le_of_ble_eq_true rfl) rfl ?_
  refine re_sub [4, 3, 2, 1, 0] (lv1 := [(0, .ref 25), (1, .ref a1_), (2, .ref a10_), (3, .ref a21_), (4, .int (0 : Int32))]) rfl ?_
  exact eL_law_23 n L xs n S23_ a1_ a10_ a21_ (0 : Int32) _ _ h
