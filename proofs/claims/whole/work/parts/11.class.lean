noncomputable def fnX9_areNeighbours (n : Nat) (S : rvS) (a0 : Nat) (x1 : Int32) (x2 : Int32) : Option Int32 :=
  (rv_gR S 8 a0 0).bind fun a1_ =>
  (rv_gR S 8 a0 0).bind fun a3_ =>
  (rv_ck S 0 a3_).bind fun u5_ =>
  (fnX1_villageOf n S a3_ x1).bind fun x8_ =>
  (rv_gR S 8 a0 0).bind fun a10_ =>
  (rv_ck S 0 a10_).bind fun u12_ =>
  (fnX1_villageOf n S a10_ x2).bind fun x15_ =>
  (rv_ck S 0 a1_).bind fun u17_ =>
  (fnX1_areNear n S a1_ x8_ x15_).bind fun x20_ =>
  (rv_bo x20_).bind fun b_ =>
  some b_
set_option maxRecDepth 20000 in
set_option maxHeartbeats 4000000 in
theorem eX9_areNeighbours_in (n : Nat) (S : rvS) (a0 : Nat) (x1 : Int32) (x2 : Int32) (r : Int32) (h : fnX9_areNeighbours n S a0 x1 x2 = some r) : rv_Ev mX9_areNeighbours 2 0 [(0, .ref a0), (1, .int x1), (2, .int x2)] [] S (some (.int r)) S := by
  unfold fnX9_areNeighbours at h
  refine re_aloadn (pc := 0) 0 (by decide +kernel : decode cX9_areNeighbours 0 = .ok (.aload_n 0, 1)) rfl ?_
  obtain ⟨a1_, g2_, h⟩ := rv_b_e h
  refine re_gR (pc := 1) g2_ lfX9_12 rfl (by decide +kernel : decode cX9_areNeighbours 1 = .ok (.getfield 12, 3)) ?_
  refine re_aloadn (pc := 4) 0 (by decide +kernel : decode cX9_areNeighbours 4 = .ok (.aload_n 0, 1)) rfl ?_
  obtain ⟨a3_, g4_, h⟩ := rv_b_e h
  refine re_gR (pc := 5) g4_ lfX9_12 rfl (by decide +kernel : decode cX9_areNeighbours 5 = .ok (.getfield 12, 3)) ?_
  refine re_iloadn (pc := 8) 1 (by decide +kernel : decode cX9_areNeighbours 8 = .ok (.iload_n 1, 1)) rfl ?_
  obtain ⟨u5_, g6_, h⟩ := rv_b_e h
  obtain ⟨x8_, g9_, h⟩ := rv_b_e h
  have m7_ := metX1_villageOf n S a3_ x1 _ g9_
  refine re_cV (pc := 9) [.int x1] m7_ (rv_okl.k ⟨rfl, rfl⟩) (rv_up.rf _ _) (by decide) (rv_ck_e g6_) ⟨by decide, rfl⟩ (Nat.le_of_ble_eq_true rfl) lVX9_101 rfl (by decide +kernel : decode cX9_areNeighbours 9 = .ok (.invokevirtual 101, 3)) ?_
  refine re_aloadn (pc := 12) 0 (by decide +kernel : decode cX9_areNeighbours 12 = .ok (.aload_n 0, 1)) rfl ?_
  obtain ⟨a10_, g11_, h⟩ := rv_b_e h
  refine re_gR (pc := 13) g11_ lfX9_12 rfl (by decide +kernel : decode cX9_areNeighbours 13 = .ok (.getfield 12, 3)) ?_
  refine re_iloadn (pc := 16) 2 (by decide +kernel : decode cX9_areNeighbours 16 = .ok (.iload_n 2, 1)) rfl ?_
  obtain ⟨u12_, g13_, h⟩ := rv_b_e h
  obtain ⟨x15_, g16_, h⟩ := rv_b_e h
  have m14_ := metX1_villageOf n S a10_ x2 _ g16_
  refine re_cV (pc := 17) [.int x2] m14_ (rv_okl.k ⟨rfl, rfl⟩) (rv_up.rf _ _) (by decide) (rv_ck_e g13_) ⟨by decide, rfl⟩ (Nat.le_of_ble_eq_true rfl) lVX9_101 rfl (by decide +kernel : decode cX9_areNeighbours 17 = .ok (.invokevirtual 101, 3)) ?_
  obtain ⟨u17_, g18_, h⟩ := rv_b_e h
  obtain ⟨x20_, g21_, h⟩ := rv_b_e h
  have m19_ := metX1_areNear n S a1_ x8_ x15_ _ g21_
  refine re_cV (pc := 20) [.int x8_, .int x15_] m19_ (rv_okl.k ⟨rfl, rfl⟩) (rv_up.rf _ _) (by decide) (rv_ck_e g18_) ⟨by decide, rfl⟩ (Nat.le_of_ble_eq_true rfl) lVX9_105 rfl (by decide +kernel : decode cX9_areNeighbours 20 = .ok (.invokevirtual 105, 3)) ?_
  obtain ⟨b_, gb_, h⟩ := rv_b_e h
  obtain ⟨gb1_, gb2_⟩ := rv_bo_e gb_
  refine re_nI (pc := 23) gb1_ ?_
  cases h
  exact re_iret (fun ty hty => by cases hty; exact gb2_) (by decide +kernel : decode cX9_areNeighbours 23 = .ok (.ireturn, 1))
theorem metX9_areNeighbours (n : Nat) (S : rvS) (a0 : Nat) (x1 : Int32) (x2 : Int32) (r : Int32) (h : fnX9_areNeighbours n S a0 x1 x2 = some r) : rv_Met yX9_areNeighbours mX9_areNeighbours 2 [.ref a0, .int x1, .int x2] S (some (.int r)) S := rv_Met.of ⟨by decide +kernel, rfl, (fun z => by first | rfl | cases z), rfl⟩ (Nat.le_of_ble_eq_true rfl) rfl (eX9_areNeighbours_in n S a0 x1 x2 r h)
noncomputable def cX9_forgery_97 (n : Nat) (K15 : Nat → Int32 → Int32 → Int32 → Int32 → Option Int32) (S : rvS) (a0 : Nat) (x1 : Int32) (x4 : Int32) (x5 : Int32) (t0 : Int32) (t1 : Int32) : Option Int32 :=
  rv_lt (t0 ||| t1) fun x1_ =>
  rv_lt (x4 + (1)) fun x3_ =>
  K15 a0 x1 x1_ x5 x3_
set_option maxRecDepth 20000 in
set_option maxHeartbeats 4000000 in
theorem eX9_forgery_97 (n : Nat) (S : rvS) (K15 : Nat → Int32 → Int32 → Int32 → Int32 → Option Int32) (hK15 : ∀ (a0 : Nat) (x1 : Int32) (x2 : Int32) (x3 : Int32) (x4 : Int32) (r : Int32), K15 a0 x1 x2 x3 x4 = some r → rv_Ev mX9_forgery 3 15 [(0, .ref a0), (1, .int x1), (2, .int x2), (3, .int x3), (4, .int x4)] [] S (some (.int r)) S) (a0 : Nat) (x1 : Int32) (x4 : Int32) (x5 : Int32) (t0 : Int32) (t1 : Int32) (r : Int32) (h : cX9_forgery_97 n K15 S a0 x1 x4 x5 t0 t1 = some r) : rv_Ev mX9_forgery 3 97 [(0, .ref a0), (1, .int x1), (4, .int x4), (5, .int x5)] [.int t1, .int t0] S (some (.int r)) S := by
  unfold cX9_forgery_97 at h
  refine re_ior (pc := 97) (by decide +kernel : decode cX9_forgery 97 = .ok (.ior, 1)) ?_
  obtain ⟨x1_, g2_, h⟩ := rv_lt_e h
  refine re_nI (pc := 98) g2_ ?_
  refine re_istoren (pc := 98) (lv1 := [(2, .int x1_), (0, .ref a0), (1, .int x1), (4, .int x4), (5, .int x5)]) (by decide +kernel : decode cX9_forgery 98 = .ok (.istore_n 2, 1)) rfl (by decide) rfl ?_
  refine re_iload (pc := 99) 4 (by decide +kernel : decode cX9_forgery 99 = .ok (.iload 5, 2)) rfl ?_
  refine re_istoren (pc := 101) (lv1 := [(3, .int x5), (2, .int x1_), (0, .ref a0), (1, .int x1), (4, .int x4), (5, .int x5)]) (by decide +kernel : decode cX9_forgery 101 = .ok (.istore_n 3, 1)) rfl (by decide) rfl ?_
  obtain ⟨x3_, g4_, h⟩ := rv_lt_e h
  refine re_iinc (pc := 102) 4 x3_ (lv1 := [(4, .int x3_), (3, .int x5), (2, .int x1_), (0, .ref a0), (1, .int x1), (5, .int x5)]) (by decide +kernel : decode cX9_forgery 102 = .ok (.iinc 4 1, 3)) rfl g4_ (by decide) rfl ?_
  refine re_goto (pc := 105) 15 (by decide +kernel : decode cX9_forgery 105 = .ok (.goto (-90), 3)) (by decide) ?_
  refine re_sub [3, 4, 2, 1, 0] (lv1 := [(0, .ref a0), (1, .int x1), (2, .int x1_), (3, .int x5), (4, .int x3_)]) rfl ?_
  exact hK15 a0 x1 x1_ x5 x3_ _ h
noncomputable def cX9_forgery_79 (n : Nat) (K15 : Nat → Int32 → Int32 → Int32 → Int32 → Option Int32) (S : rvS) (a0 : Nat) (x1 : Int32) (x3 : Int32) (x4 : Int32) (x5 : Int32) (t0 : Int32) (t1 : Int32) : Option Int32 :=
  rv_lt (t0 ||| t1) fun x1_ =>
  (rv_ck S 8 a0).bind fun u3_ =>
  (fnX9_areNeighbours n S a0 x3 x5).bind fun x6_ =>
  if x6_ = 0 then (
    cX9_forgery_97 n K15 S a0 x1 x4 x5 x1_ (4 : Int32))
  else (
    cX9_forgery_97 n K15 S a0 x1 x4 x5 x1_ (0 : Int32))
set_option maxRecDepth 20000 in
set_option maxHeartbeats 4000000 in
theorem eX9_forgery_79 (n : Nat) (S : rvS) (K15 : Nat → Int32 → Int32 → Int32 → Int32 → Option Int32) (hK15 : ∀ (a0 : Nat) (x1 : Int32) (x2 : Int32) (x3 : Int32) (x4 : Int32) (r : Int32), K15 a0 x1 x2 x3 x4 = some r → rv_Ev mX9_forgery 3 15 [(0, .ref a0), (1, .int x1), (2, .int x2), (3, .int x3), (4, .int x4)] [] S (some (.int r)) S) (a0 : Nat) (x1 : Int32) (x3 : Int32) (x4 : Int32) (x5 : Int32) (t0 : Int32) (t1 : Int32) (r : Int32) (h : cX9_forgery_79 n K15 S a0 x1 x3 x4 x5 t0 t1 = some r) : rv_Ev mX9_forgery 3 79 [(0, .ref a0), (1, .int x1), (3, .int x3), (4, .int x4), (5, .int x5)] [.int t1, .int t0] S (some (.int r)) S := by
  unfold cX9_forgery_79 at h
  refine re_ior (pc := 79) (by decide +kernel : decode cX9_forgery 79 = .ok (.ior, 1)) ?_
  obtain ⟨x1_, g2_, h⟩ := rv_lt_e h
  refine re_nI (pc := 80) g2_ ?_
  refine re_istoren (pc := 80) (lv1 := [(2, .int x1_), (0, .ref a0), (1, .int x1), (3, .int x3), (4, .int x4), (5, .int x5)]) (by decide +kernel : decode cX9_forgery 80 = .ok (.istore_n 2, 1)) rfl (by decide) rfl ?_
  refine re_iloadn (pc := 81) 0 (by decide +kernel : decode cX9_forgery 81 = .ok (.iload_n 2, 1)) rfl ?_
  refine re_aloadn (pc := 82) 1 (by decide +kernel : decode cX9_forgery 82 = .ok (.aload_n 0, 1)) rfl ?_
  refine re_iloadn (pc := 83) 3 (by decide +kernel : decode cX9_forgery 83 = .ok (.iload_n 3, 1)) rfl ?_
  refine re_iload (pc := 84) 5 (by decide +kernel : decode cX9_forgery 84 = .ok (.iload 5, 2)) rfl ?_
  obtain ⟨u3_, g4_, h⟩ := rv_b_e h
  obtain ⟨x6_, g7_, h⟩ := rv_b_e h
  have m5_ := metX9_areNeighbours n S a0 x3 x5 _ g7_
  refine re_cV (pc := 86) [.int x3, .int x5] m5_ (rv_okl.k ⟨rfl, rfl⟩) (rv_up.rf _ _) (by decide) (rv_ck_e g4_) ⟨by decide, rfl⟩ (Nat.le_of_ble_eq_true rfl) lVX9_97 rfl (by decide +kernel : decode cX9_forgery 86 = .ok (.invokevirtual 97, 3)) ?_
  rcases rv_if_e h with ⟨g8_, h⟩ | ⟨g8_, h⟩
  · refine re_if_eq_t (pc := 89) 96 (by decide +kernel : decode cX9_forgery 89 = .ok (.ifCond .eq 7, 3)) (by decide) g8_ ?_
    refine re_iconst (pc := 96) (4 : Int32) (by decide +kernel : decode cX9_forgery 96 = .ok (.iconst 4, 1)) (by decide) ?_
    refine re_sub [1, 2, 4, 5] (lv1 := [(0, .ref a0), (1, .int x1), (4, .int x4), (5, .int x5)]) rfl ?_
    exact eX9_forgery_97 n S K15 hK15 a0 x1 x4 x5 x1_ (4 : Int32) _ h
  · refine re_if_eq_f (pc := 89) 96 (by decide +kernel : decode cX9_forgery 89 = .ok (.ifCond .eq 7, 3)) (by decide) g8_ ?_
    refine re_iconst (pc := 92) (0 : Int32) (by decide +kernel : decode cX9_forgery 92 = .ok (.iconst 0, 1)) (by decide) ?_
    refine re_goto (pc := 93) 97 (by decide +kernel : decode cX9_forgery 93 = .ok (.goto 4, 3)) (by decide) ?_
    refine re_sub [1, 2, 4, 5] (lv1 := [(0, .ref a0), (1, .int x1), (4, .int x4), (5, .int x5)]) rfl ?_
    exact eX9_forgery_97 n S K15 hK15 a0 x1 x4 x5 x1_ (0 : Int32) _ h
noncomputable def cX9_forgery_57 (n : Nat) (K15 : Nat → Int32 → Int32 → Int32 → Int32 → Option Int32) (S : rvS) (a0 : Nat) (x1 : Int32) (x3 : Int32) (x4 : Int32) (x5 : Int32) (t0 : Int32) (t1 : Int32) : Option Int32 :=
  rv_lt (t0 ||| t1) fun x1_ =>
  (rv_gR S 8 a0 1).bind fun a3_ =>
  (rv_gR S 5 a3_ 3).bind fun a5_ =>
  (rv_aI S 0 a5_ x1).bind fun x7_ =>
  if x5 = x7_ then (
    cX9_forgery_79 n K15 S a0 x1 x3 x4 x5 x1_ (2 : Int32))
  else (
    cX9_forgery_79 n K15 S a0 x1 x3 x4 x5 x1_ (0 : Int32))
set_option maxRecDepth 20000 in
set_option maxHeartbeats 4000000 in
theorem eX9_forgery_57 (n : Nat) (S : rvS) (K15 : Nat → Int32 → Int32 → Int32 → Int32 → Option Int32) (hK15 : ∀ (a0 : Nat) (x1 : Int32) (x2 : Int32) (x3 : Int32) (x4 : Int32) (r : Int32), K15 a0 x1 x2 x3 x4 = some r → rv_Ev mX9_forgery 3 15 [(0, .ref a0), (1, .int x1), (2, .int x2), (3, .int x3), (4, .int x4)] [] S (some (.int r)) S) (a0 : Nat) (x1 : Int32) (x3 : Int32) (x4 : Int32) (x5 : Int32) (t0 : Int32) (t1 : Int32) (r : Int32) (h : cX9_forgery_57 n K15 S a0 x1 x3 x4 x5 t0 t1 = some r) : rv_Ev mX9_forgery 3 57 [(0, .ref a0), (1, .int x1), (3, .int x3), (4, .int x4), (5, .int x5)] [.int t1, .int t0] S (some (.int r)) S := by
  unfold cX9_forgery_57 at h
  refine re_ior (pc := 57) (by decide +kernel : decode cX9_forgery 57 = .ok (.ior, 1)) ?_
  obtain ⟨x1_, g2_, h⟩ := rv_lt_e h
  refine re_nI (pc := 58) g2_ ?_
  refine re_istoren (pc := 58) (lv1 := [(2, .int x1_), (0, .ref a0), (1, .int x1), (3, .int x3), (4, .int x4), (5, .int x5)]) (by decide +kernel : decode cX9_forgery 58 = .ok (.istore_n 2, 1)) rfl (by decide) rfl ?_
  refine re_iloadn (pc := 59) 0 (by decide +kernel : decode cX9_forgery 59 = .ok (.iload_n 2, 1)) rfl ?_
  refine re_iload (pc := 60) 5 (by decide +kernel : decode cX9_forgery 60 = .ok (.iload 5, 2)) rfl ?_
  refine re_aloadn (pc := 62) 1 (by decide +kernel : decode cX9_forgery 62 = .ok (.aload_n 0, 1)) rfl ?_
  obtain ⟨a3_, g4_, h⟩ := rv_b_e h
  refine re_gR (pc := 63) g4_ lfX9_21 rfl (by decide +kernel : decode cX9_forgery 63 = .ok (.getfield 21, 3)) ?_
  obtain ⟨a5_, g6_, h⟩ := rv_b_e h
  refine re_gR (pc := 66) g6_ lfX9_76 rfl (by decide +kernel : decode cX9_forgery 66 = .ok (.getfield 76, 3)) ?_
  refine re_iloadn (pc := 69) 2 (by decide +kernel : decode cX9_forgery 69 = .ok (.iload_n 1, 1)) rfl ?_
  obtain ⟨x7_, g8_, h⟩ := rv_b_e h
  refine re_aI (pc := 70) g8_ (by decide +kernel : decode cX9_forgery 70 = .ok (.iaload, 1)) ?_
  rcases rv_if_e h with ⟨g9_, h⟩ | ⟨g9_, h⟩
  · refine re_icmp_ne_f (pc := 71) 78 (by decide +kernel : decode cX9_forgery 71 = .ok (.if_icmp .ne 7, 3)) (by decide) g9_ ?_
    refine re_iconst (pc := 74) (2 : Int32) (by decide +kernel : decode cX9_forgery 74 = .ok (.iconst 2, 1)) (by decide) ?_
    refine re_goto (pc := 75) 79 (by decide +kernel : decode cX9_forgery 75 = .ok (.goto 4, 3)) (by decide) ?_
    refine re_sub [1, 2, 3, 4, 5] (lv1 := [(0, .ref a0), (1, .int x1), (3, .int x3), (4, .int x4), (5, .int x5)]) rfl ?_
    exact eX9_forgery_79 n S K15 hK15 a0 x1 x3 x4 x5 x1_ (2 : Int32) _ h
  · refine re_icmp_ne_t (pc := 71) 78 (by decide +kernel : decode cX9_forgery 71 = .ok (.if_icmp .ne 7, 3)) (by decide) g9_ ?_
    refine re_iconst (pc := 78) (0 : Int32) (by decide +kernel : decode cX9_forgery 78 = .ok (.iconst 0, 1)) (by decide) ?_
    refine re_sub [1, 2, 3, 4, 5] (lv1 := [(0, .ref a0), (1, .int x1), (3, .int x3), (4, .int x4), (5, .int x5)]) rfl ?_
    exact eX9_forgery_79 n S K15 hK15 a0 x1 x3 x4 x5 x1_ (0 : Int32) _ h
noncomputable def cX9_forgery_15 (n : Nat) (S : rvS) : Nat → Nat → Int32 → Int32 → Int32 → Int32 → Option Int32
  | 0, _, _, _, _, _ => none
  | k + 1, a0, x1, x2, x3, x4 =>
    if (3 : Int32) ≤ x4 then (
      some x2)
    else (
      (rv_gR S 8 a0 1).bind fun a2_ =>
      (rv_ck S 5 a2_).bind fun u4_ =>
      (fnX6_nameAt n S a2_ x1 x4).bind fun x7_ =>
      if x7_ = (-1 : Int32) then (
        rv_lt (x4 + (1)) fun x10_ =>
        cX9_forgery_15 n S k a0 x1 x2 x3 x10_)
      else (
        (rv_ck S 8 a0).bind fun u12_ =>
        (fnX9_standsTwice n S a0 x1 x4 x7_).bind fun x15_ =>
        if x15_ = 0 then (
          cX9_forgery_57 n (fun a0 x1 x2 x3 x4 => cX9_forgery_15 n S k a0 x1 x2 x3 x4) S a0 x1 x3 x4 x7_ x2 (0 : Int32))
        else (
          cX9_forgery_57 n (fun a0 x1 x2 x3 x4 => cX9_forgery_15 n S k a0 x1 x2 x3 x4) S a0 x1 x3 x4 x7_ x2 (1 : Int32))))
set_option maxRecDepth 20000 in
set_option maxHeartbeats 4000000 in
theorem eX9_forgery_15 (n : Nat) (S : rvS) : ∀ (k : Nat) (a0 : Nat) (x1 : Int32) (x2 : Int32) (x3 : Int32) (x4 : Int32) (r : Int32), cX9_forgery_15 n S k a0 x1 x2 x3 x4 = some r → rv_Ev mX9_forgery 3 15 [(0, .ref a0), (1, .int x1), (2, .int x2), (3, .int x3), (4, .int x4)] [] S (some (.int r)) S := by
  intro k
  induction k with
  | zero => intro a0 x1 x2 x3 x4 r h; exact absurd h (by simp [cX9_forgery_15])
  | succ k ih =>
    intro a0 x1 x2 x3 x4 r h
    unfold cX9_forgery_15 at h
    refine re_iload (pc := 15) 4 (by decide +kernel : decode cX9_forgery 15 = .ok (.iload 4, 2)) rfl ?_
    refine re_iconst (pc := 17) (3 : Int32) (by decide +kernel : decode cX9_forgery 17 = .ok (.iconst 3, 1)) (by decide) ?_
    rcases rv_if_e h with ⟨g1_, h⟩ | ⟨g1_, h⟩
    · refine re_icmp_ge_t (pc := 18) 108 (by decide +kernel : decode cX9_forgery 18 = .ok (.if_icmp .ge 90, 3)) (by decide) g1_ ?_
      refine re_iloadn (pc := 108) 2 (by decide +kernel : decode cX9_forgery 108 = .ok (.iload_n 2, 1)) rfl ?_
      cases h
      exact re_iret (fun ty hty => by cases hty; rfl) (by decide +kernel : decode cX9_forgery 109 = .ok (.ireturn, 1))
    · refine re_icmp_ge_f (pc := 18) 108 (by decide +kernel : decode cX9_forgery 18 = .ok (.if_icmp .ge 90, 3)) (by decide) g1_ ?_
      refine re_aloadn (pc := 21) 0 (by decide +kernel : decode cX9_forgery 21 = .ok (.aload_n 0, 1)) rfl ?_
      obtain ⟨a2_, g3_, h⟩ := rv_b_e h
      refine re_gR (pc := 22) g3_ lfX9_21 rfl (by decide +kernel : decode cX9_forgery 22 = .ok (.getfield 21, 3)) ?_
      refine re_iloadn (pc := 25) 1 (by decide +kernel : decode cX9_forgery 25 = .ok (.iload_n 1, 1)) rfl ?_
      refine re_iload (pc := 26) 4 (by decide +kernel : decode cX9_forgery 26 = .ok (.iload 4, 2)) rfl ?_
      obtain ⟨u4_, g5_, h⟩ := rv_b_e h
      obtain ⟨x7_, g8_, h⟩ := rv_b_e h
      have m6_ := metX6_nameAt n S a2_ x1 x4 _ g8_
      refine re_cV (pc := 28) [.int x1, .int x4] m6_ (rv_okl.k ⟨rfl, rfl⟩) (rv_up.rf _ _) (by decide) (rv_ck_e g5_) ⟨by decide, rfl⟩ (Nat.le_of_ble_eq_true rfl) lVX9_90 rfl (by decide +kernel : decode cX9_forgery 28 = .ok (.invokevirtual 90, 3)) ?_
      refine re_istore (pc := 31) (lv1 := [(5, .int x7_), (0, .ref a0), (1, .int x1), (2, .int x2), (3, .int x3), (4, .int x4)]) (by decide +kernel : decode cX9_forgery 31 = .ok (.istore 5, 2)) (by decide) rfl ?_
      refine re_iload (pc := 33) 0 (by decide +kernel : decode cX9_forgery 33 = .ok (.iload 5, 2)) rfl ?_
      refine re_iconst (pc := 35) (-1 : Int32) (by decide +kernel : decode cX9_forgery 35 = .ok (.iconst (-1), 1)) (by decide) ?_
      rcases rv_if_e h with ⟨g9_, h⟩ | ⟨g9_, h⟩
      · refine re_icmp_eq_t (pc := 36) 102 (by decide +kernel : decode cX9_forgery 36 = .ok (.if_icmp .eq 66, 3)) (by decide) g9_ ?_
        obtain ⟨x10_, g11_, h⟩ := rv_lt_e h
        refine re_iinc (pc := 102) 5 x10_ (lv1 := [(4, .int x10_), (5, .int x7_), (0, .ref a0), (1, .int x1), (2, .int x2), (3, .int x3)]) (by decide +kernel : decode cX9_forgery 102 = .ok (.iinc 4 1, 3)) rfl g11_ (by decide) rfl ?_
        refine re_goto (pc := 105) 15 (by decide +kernel : decode cX9_forgery 105 = .ok (.goto (-90), 3)) (by decide) ?_
        refine re_sub [2, 3, 4, 5, 0] (lv1 := [(0, .ref a0), (1, .int x1), (2, .int x2), (3, .int x3), (4, .int x10_)]) rfl ?_
        exact ih a0 x1 x2 x3 x10_ _ h
      · refine re_icmp_eq_f (pc := 36) 102 (by decide +kernel : decode cX9_forgery 36 = .ok (.if_icmp .eq 66, 3)) (by decide) g9_ ?_
        refine re_iloadn (pc := 39) 3 (by decide +kernel : decode cX9_forgery 39 = .ok (.iload_n 2, 1)) rfl ?_
        refine re_aloadn (pc := 40) 1 (by decide +kernel : decode cX9_forgery 40 = .ok (.aload_n 0, 1)) rfl ?_
        refine re_iloadn (pc := 41) 2 (by decide +kernel : decode cX9_forgery 41 = .ok (.iload_n 1, 1)) rfl ?_
        refine re_iload (pc := 42) 5 (by decide +kernel : decode cX9_forgery 42 = .ok (.iload 4, 2)) rfl ?_
        refine re_iload (pc := 44) 0 (by decide +kernel : decode cX9_forgery 44 = .ok (.iload 5, 2)) rfl ?_
        obtain ⟨u12_, g13_, h⟩ := rv_b_e h
        obtain ⟨x15_, g16_, h⟩ := rv_b_e h
        have m14_ := metX9_standsTwice n S a0 x1 x4 x7_ _ g16_
        refine re_cV (pc := 46) [.int x1, .int x4, .int x7_] m14_ (rv_okl.k ⟨rfl, rfl⟩) (rv_up.rf _ _) (by decide) (rv_ck_e g13_) ⟨by decide, rfl⟩ (Nat.le_of_ble_eq_true rfl) lVX9_93 rfl (by decide +kernel : decode cX9_forgery 46 = .ok (.invokevirtual 93, 3)) ?_
        rcases rv_if_e h with ⟨g17_, h⟩ | ⟨g17_, h⟩
        · refine re_if_eq_t (pc := 49) 56 (by decide +kernel : decode cX9_forgery 49 = .ok (.ifCond .eq 7, 3)) (by decide) g17_ ?_
          refine re_iconst (pc := 56) (0 : Int32) (by decide +kernel : decode cX9_forgery 56 = .ok (.iconst 0, 1)) (by decide) ?_
          refine re_sub [1, 2, 4, 5, 0] (lv1 := [(0, .ref a0), (1, .int x1), (3, .int x3), (4, .int x4), (5, .int x7_)]) rfl ?_
          exact eX9_forgery_57 n S (fun a0 x1 x2 x3 x4 => cX9_forgery_15 n S k a0 x1 x2 x3 x4) (fun a0 x1 x2 x3 x4 _ h => ih a0 x1 x2 x3 x4 _ h) a0 x1 x3 x4 x7_ x2 (0 : Int32) _ h
        · refine re_if_eq_f (pc := 49) 56 (by decide +kernel : decode cX9_forgery 49 = .ok (.ifCond .eq 7, 3)) (by decide) g17_ ?_
          refine re_iconst (pc := 52) (1 : Int32) (by decide +kernel : decode cX9_forgery 52 = .ok (.iconst 1, 1)) (by decide) ?_
          refine re_goto (pc := 53) 57 (by decide +kernel : decode cX9_forgery 53 = .ok (.goto 4, 3)) (by decide) ?_
          refine re_sub [1, 2, 4, 5, 0] (lv1 := [(0, .ref a0), (1, .int x1), (3, .int x3), (4, .int x4), (5, .int x7_)]) rfl ?_
          exact eX9_forgery_57 n S (fun a0 x1 x2 x3 x4 => cX9_forgery_15 n S k a0 x1 x2 x3 x4) (fun a0 x1 x2 x3 x4 _ h => ih a0 x1 x2 x3 x4 _ h) a0 x1 x3 x4 x7_ x2 (1 : Int32) _ h
noncomputable def fnX9_forgery (n : Nat) (S : rvS) (a0 : Nat) (x1 : Int32) : Option Int32 :=
  (rv_gR S 8 a0 1).bind fun a1_ =>
  (rv_gR S 5 a1_ 3).bind fun a3_ =>
  (rv_aI S 0 a3_ x1).bind fun x5_ =>
  cX9_forgery_15 n S n a0 x1 (0 : Int32) x5_ (0 : Int32)
set_option maxRecDepth 20000 in
set_option maxHeartbeats 4000000 in
theorem eX9_forgery_in (n : Nat) (S : rvS) (a0 : Nat) (x1 : Int32) (r : Int32) (h : fnX9_forgery n S a0 x1 = some r) : rv_Ev mX9_forgery 3 0 [(0, .ref a0), (1, .int x1)] [] S (some (.int r)) S := by
  unfold fnX9_forgery at h
  refine re_iconst (pc := 0) (0 : Int32) (by decide +kernel : decode cX9_forgery 0 = .ok (.iconst 0, 1)) (by decide) ?_
  refine re_istoren (pc := 1) (lv1 := [(2, .int (0 : Int32)), (0, .ref a0), (1, .int x1)]) (by decide +kernel : decode cX9_forgery 1 = .ok (.istore_n 2, 1)) rfl (by decide) rfl ?_
  refine re_aloadn (pc := 2) 1 (by decide +kernel : decode cX9_forgery 2 = .ok (.aload_n 0, 1)) rfl ?_
  obtain ⟨a1_, g2_, h⟩ := rv_b_e h
  refine re_gR (pc := 3) g2_ lfX9_21 rfl (by decide +kernel : decode cX9_forgery 3 = .ok (.getfield 21, 3)) ?_
  obtain ⟨a3_, g4_, h⟩ := rv_b_e h
  refine re_gR (pc := 6) g4_ lfX9_76 rfl (by decide +kernel : decode cX9_forgery 6 = .ok (.getfield 76, 3)) ?_
  refine re_iloadn (pc := 9) 2 (by decide +kernel : decode cX9_forgery 9 = .ok (.iload_n 1, 1)) rfl ?_
  obtain ⟨x5_, g6_, h⟩ := rv_b_e h
  refine re_aI (pc := 10) g6_ (by decide +kernel : decode cX9_forgery 10 = .ok (.iaload, 1)) ?_
  refine re_istoren (pc := 11) (lv1 := [(3, .int x5_), (2, .int (0 : Int32)), (0, .ref a0), (1, .int x1)]) (by decide +kernel : decode cX9_forgery 11 = .ok (.istore_n 3, 1)) rfl (by decide) rfl ?_
  refine re_iconst (pc := 12) (0 : Int32) (by decide +kernel : decode cX9_forgery 12 = .ok (.iconst 0, 1)) (by decide) ?_
  refine re_istore (pc := 13) (lv1 := [(4, .int (0 : Int32)), (3, .int x5_), (2, .int (0 : Int32)), (0, .ref a0), (1, .int x1)]) (by decide +kernel : decode cX9_forgery 13 = .ok (.istore 4, 2)) (by decide) rfl ?_
  refine re_sub [3, 4, 2, 1, 0] (lv1 := [(0, .ref a0), (1, .int x1), (2, .int (0 : Int32)), (3, .int x5_), (4, .int (0 : Int32))]) rfl ?_
  exact eX9_forgery_15 n S n a0 x1 (0 : Int32) x5_ (0 : Int32) _ h
theorem metX9_forgery (n : Nat) (S : rvS) (a0 : Nat) (x1 : Int32) (r : Int32) (h : fnX9_forgery n S a0 x1 = some r) : rv_Met yX9_forgery mX9_forgery 3 [.ref a0, .int x1] S (some (.int r)) S := rv_Met.of ⟨by decide +kernel, rfl, (fun z => by first | rfl | cases z), rfl⟩ (Nat.le_of_ble_eq_true rfl) rfl (eX9_forgery_in n S a0 x1 r h)
noncomputable def cX2_canHaveCome_52 (n : Nat) (S : rvS) : Nat → Nat → Int32 → Nat → Int32 → Int32 → Option Int32
  | 0, _, _, _, _, _ => none
  | k + 1, a0, x1, a2, x3, x4 =>
    (rv_gI S 5 a2 1).bind fun x1_ =>
    if x1_ ≤ x4 then (
      some (1 : Int32))
    else (
      (rv_ck S 5 a2).bind fun u4_ =>
      (fnX6_nameAt n S a2 x1 x4).bind fun x7_ =>
      if (((x3.toUInt32 >>> (x7_.toUInt32 &&& Int32.toUInt32 31)).toInt32) &&& (1 : Int32)) = 0 then (
        (rv_gR S 8 a0 0).bind fun a10_ =>
        (rv_ck S 0 a10_).bind fun u12_ =>
        (fnX1_houseOf n S a10_ x7_).bind fun x15_ =>
        rv_lt (x3 ||| x15_) fun x17_ =>
        rv_lt (x4 + (1)) fun x19_ =>
        cX2_canHaveCome_52 n S k a0 x1 a2 x17_ x19_)
      else (
        some (0 : Int32)))
set_option maxRecDepth 20000 in
set_option maxHeartbeats 4000000 in
theorem eX2_canHaveCome_52 (n : Nat) (S : rvS) : ∀ (k : Nat) (a0 : Nat) (x1 : Int32) (a2 : Nat) (x3 : Int32) (x4 : Int32) (r : Int32), cX2_canHaveCome_52 n S k a0 x1 a2 x3 x4 = some r → rv_Ev mX2_canHaveCome 4 52 [(0, .ref a0), (1, .int x1), (2, .ref a2), (3, .int x3), (4, .int x4)] [] S (some (.int r)) S := by
  intro k
  induction k with
  | zero => intro a0 x1 a2 x3 x4 r h; exact absurd h (by simp [cX2_canHaveCome_52])
  | succ k ih =>
    intro a0 x1 a2 x3 x4 r h
    unfold cX2_canHaveCome_52 at h
    refine re_iload (pc := 52) 4 (by decide +kernel : decode cX2_canHaveCome 52 = .ok (.iload 4, 2)) rfl ?_
    refine re_aloadn (pc := 54) 2 (by decide +kernel : decode cX2_canHaveCome 54 = .ok (.aload_n 2, 1)) rfl ?_
    obtain ⟨x1_, g2_, h⟩ := rv_b_e h
    refine re_gI (pc := 55) g2_ lfX2_115 rfl (by decide +kernel : decode cX2_canHaveCome 55 = .ok (.getfield 115, 3)) ?_
    rcases rv_if_e h with ⟨g3_, h⟩ | ⟨g3_, h⟩
    · refine re_icmp_ge_t (pc := 58) 99 (by decide +kernel : decode cX2_canHaveCome 58 = .ok (.if_icmp .ge 41, 3)) (by decide) g3_ ?_
      refine re_iconst (pc := 99) (1 : Int32) (by decide +kernel : decode cX2_canHaveCome 99 = .ok (.iconst 1, 1)) (by decide) ?_
      cases h
      exact re_iret (fun ty hty => by cases hty; rfl) (by decide +kernel : decode cX2_canHaveCome 100 = .ok (.ireturn, 1))
    · refine re_icmp_ge_f (pc := 58) 99 (by decide +kernel : decode cX2_canHaveCome 58 = .ok (.if_icmp .ge 41, 3)) (by decide) g3_ ?_
      refine re_aloadn (pc := 61) 2 (by decide +kernel : decode cX2_canHaveCome 61 = .ok (.aload_n 2, 1)) rfl ?_
      refine re_iloadn (pc := 62) 1 (by decide +kernel : decode cX2_canHaveCome 62 = .ok (.iload_n 1, 1)) rfl ?_
      refine re_iload (pc := 63) 4 (by decide +kernel : decode cX2_canHaveCome 63 = .ok (.iload 4, 2)) rfl ?_
      obtain ⟨u4_, g5_, h⟩ := rv_b_e h
      obtain ⟨x7_, g8_, h⟩ := rv_b_e h
      have m6_ := metX6_nameAt n S a2 x1 x4 _ g8_
      refine re_cV (pc := 65) [.int x1, .int x4] m6_ (rv_okl.k ⟨rfl, rfl⟩) (rv_up.rf _ _) (by decide) (rv_ck_e g5_) ⟨by decide, rfl⟩ (Nat.le_of_ble_eq_true rfl) lVX2_127 rfl (by decide +kernel : decode cX2_canHaveCome 65 = .ok (.invokevirtual 127, 3)) ?_
      refine re_istore (pc := 68) (lv1 := [(5, .int x7_), (0, .ref a0), (1, .int x1), (2, .ref a2), (3, .int x3), (4, .int x4)]) (by decide +kernel : decode cX2_canHaveCome 68 = .ok (.istore 5, 2)) (by decide) rfl ?_
      refine re_iloadn (pc := 70) 4 (by decide +kernel : decode cX2_canHaveCome 70 = .ok (.iload_n 3, 1)) rfl ?_
      refine re_iload (pc := 71) 0 (by decide +kernel : decode cX2_canHaveCome 71 = .ok (.iload 5, 2)) rfl ?_
      refine re_iushr (pc := 73) (by decide +kernel : decode cX2_canHaveCome 73 = .ok (.iushr, 1)) ?_
      refine re_iconst (pc := 74) (1 : Int32) (by decide +kernel : decode cX2_canHaveCome 74 = .ok (.iconst 1, 1)) (by decide) ?_
      refine re_iand (pc := 75) (by decide +kernel : decode cX2_canHaveCome 75 = .ok (.iand, 1)) ?_
      rcases rv_if_e h with ⟨g9_, h⟩ | ⟨g9_, h⟩
      · refine re_if_eq_t (pc := 76) 81 (by decide +kernel : decode cX2_canHaveCome 76 = .ok (.ifCond .eq 5, 3)) (by decide) g9_ ?_
        refine re_iloadn (pc := 81) 4 (by decide +kernel : decode cX2_canHaveCome 81 = .ok (.iload_n 3, 1)) rfl ?_
        refine re_aloadn (pc := 82) 1 (by decide +kernel : decode cX2_canHaveCome 82 = .ok (.aload_n 0, 1)) rfl ?_
        obtain ⟨a10_, g11_, h⟩ := rv_b_e h
        refine re_gR (pc := 83) g11_ lfX2_51 rfl (by decide +kernel : decode cX2_canHaveCome 83 = .ok (.getfield 51, 3)) ?_
        refine re_iload (pc := 86) 0 (by decide +kernel : decode cX2_canHaveCome 86 = .ok (.iload 5, 2)) rfl ?_
        obtain ⟨u12_, g13_, h⟩ := rv_b_e h
        obtain ⟨x15_, g16_, h⟩ := rv_b_e h
        have m14_ := metX1_houseOf n S a10_ x7_ _ g16_
        refine re_cV (pc := 88) [.int x7_] m14_ (rv_okl.k ⟨rfl, rfl⟩) (rv_up.rf _ _) (by decide) (rv_ck_e g13_) ⟨by decide, rfl⟩ (Nat.le_of_ble_eq_true rfl) lVX2_124 rfl (by decide +kernel : decode cX2_canHaveCome 88 = .ok (.invokevirtual 124, 3)) ?_
        refine re_ior (pc := 91) (by decide +kernel : decode cX2_canHaveCome 91 = .ok (.ior, 1)) ?_
        obtain ⟨x17_, g18_, h⟩ := rv_lt_e h
        refine re_nI (pc := 92) g18_ ?_
        refine re_istoren (pc := 92) (lv1 := [(3, .int x17_), (5, .int x7_), (0, .ref a0), (1, .int x1), (2, .ref a2), (4, .int x4)]) (by decide +kernel : decode cX2_canHaveCome 92 = .ok (.istore_n 3, 1)) rfl (by decide) rfl ?_
        obtain ⟨x19_, g20_, h⟩ := rv_lt_e h
        refine re_iinc (pc := 93) 5 x19_ (lv1 := [(4, .int x19_), (3, .int x17_), (5, .int x7_), (0, .ref a0), (1, .int x1), (2, .ref a2)]) (by decide +kernel : decode cX2_canHaveCome 93 = .ok (.iinc 4 1, 3)) rfl g20_ (by decide) rfl ?_
        refine re_goto (pc := 96) 52 (by decide +kernel : decode cX2_canHaveCome 96 = .ok (.goto (-44), 3)) (by decide) ?_
        refine re_sub [3, 4, 5, 1, 0] (lv1 := [(0, .ref a0), (1, .int x1), (2, .ref a2), (3, .int x17_), (4, .int x19_)]) rfl ?_
        exact ih a0 x1 a2 x17_ x19_ _ h
      · refine re_if_eq_f (pc := 76) 81 (by decide +kernel : decode cX2_canHaveCome 76 = .ok (.ifCond .eq 5, 3)) (by decide) g9_ ?_
        refine re_iconst (pc := 79) (0 : Int32) (by decide +kernel : decode cX2_canHaveCome 79 = .ok (.iconst 0, 1)) (by decide) ?_
        cases h
        exact re_iret (fun ty hty => by cases hty; rfl) (by decide +kernel : decode cX2_canHaveCome 80 = .ok (.ireturn, 1))
noncomputable def fnX2_canHaveCome (n : Nat) (S : rvS) (a0 : Nat) (x1 : Int32) : Option Int32 :=
  (rv_gR S 8 a0 1).bind fun a1_ =>
  (rv_ck S 5 a1_).bind fun u3_ =>
  (fnX6_names n S a1_ x1).bind fun x6_ =>
  (rv_gI S 5 a1_ 1).bind fun x8_ =>
  if x6_ < x8_ then (
    some (0 : Int32))
  else (
    (rv_ck S 8 a0).bind fun u11_ =>
    (fnX9_forgery n S a0 x1).bind fun x14_ =>
    if x14_ = 0 then (
      (rv_gR S 8 a0 0).bind fun a17_ =>
      (rv_gI S 0 a17_ 1).bind fun x19_ =>
      (rv_gR S 8 a0 0).bind fun a21_ =>
      (rv_gR S 5 a1_ 3).bind fun a23_ =>
      (rv_aI S 0 a23_ x1).bind fun x25_ =>
      (rv_ck S 0 a21_).bind fun u27_ =>
      (fnX1_houseOf n S a21_ x25_).bind fun x30_ =>
      rv_lt (x19_ ||| x30_) fun x32_ =>
      cX2_canHaveCome_52 n S n a0 x1 a1_ x32_ (0 : Int32))
    else (
      some (0 : Int32)))
set_option maxRecDepth 20000 in
set_option maxHeartbeats 4000000 in
theorem eX2_canHaveCome_in (n : Nat) (S : rvS) (a0 : Nat) (x1 : Int32) (r : Int32) (h : fnX2_canHaveCome n S a0 x1 = some r) : rv_Ev mX2_canHaveCome 4 0 [(0, .ref a0), (1, .int x1)] [] S (some (.int r)) S := by
  unfold fnX2_canHaveCome at h
  refine re_aloadn (pc := 0) 0 (by decide +kernel : decode cX2_canHaveCome 0 = .ok (.aload_n 0, 1)) rfl ?_
  obtain ⟨a1_, g2_, h⟩ := rv_b_e h
  refine re_gR (pc := 1) g2_ lfX2_67 rfl (by decide +kernel : decode cX2_canHaveCome 1 = .ok (.getfield 67, 3)) ?_
  refine re_astoren (pc := 4) (lv1 := [(2, .ref a1_), (0, .ref a0), (1, .int x1)]) (by decide +kernel : decode cX2_canHaveCome 4 = .ok (.astore_n 2, 1)) rfl (by decide) rfl ?_
  refine re_aloadn (pc := 5) 0 (by decide +kernel : decode cX2_canHaveCome 5 = .ok (.aload_n 2, 1)) rfl ?_
  refine re_iloadn (pc := 6) 2 (by decide +kernel : decode cX2_canHaveCome 6 = .ok (.iload_n 1, 1)) rfl ?_
  obtain ⟨u3_, g4_, h⟩ := rv_b_e h
  obtain ⟨x6_, g7_, h⟩ := rv_b_e h
  have m5_ := metX6_names n S a1_ x1 _ g7_
  refine re_cV (pc := 7) [.int x1] m5_ (rv_okl.k ⟨rfl, rfl⟩) (rv_up.rf _ _) (by decide) (rv_ck_e g4_) ⟨by decide, rfl⟩ (Nat.le_of_ble_eq_true rfl) lVX2_112 rfl (by decide +kernel : decode cX2_canHaveCome 7 = .ok (.invokevirtual 112, 3)) ?_
  refine re_aloadn (pc := 10) 0 (by decide +kernel : decode cX2_canHaveCome 10 = .ok (.aload_n 2, 1)) rfl ?_
  obtain ⟨x8_, g9_, h⟩ := rv_b_e h
  refine re_gI (pc := 11) g9_ lfX2_115 rfl (by decide +kernel : decode cX2_canHaveCome 11 = .ok (.getfield 115, 3)) ?_
  rcases rv_if_e h with ⟨g10_, h⟩ | ⟨g10_, h⟩
  · refine re_icmp_lt_t (pc := 14) 25 (by decide +kernel : decode cX2_canHaveCome 14 = .ok (.if_icmp .lt 11, 3)) (by decide) g10_ ?_
    refine re_iconst (pc := 25) (0 : Int32) (by decide +kernel : decode cX2_canHaveCome 25 = .ok (.iconst 0, 1)) (by decide) ?_
    cases h
    exact re_iret (fun ty hty => by cases hty; rfl) (by decide +kernel : decode cX2_canHaveCome 26 = .ok (.ireturn, 1))
  · refine re_icmp_lt_f (pc := 14) 25 (by decide +kernel : decode cX2_canHaveCome 14 = .ok (.if_icmp .lt 11, 3)) (by decide) g10_ ?_
    refine re_aloadn (pc := 17) 1 (by decide +kernel : decode cX2_canHaveCome 17 = .ok (.aload_n 0, 1)) rfl ?_
    refine re_iloadn (pc := 18) 2 (by decide +kernel : decode cX2_canHaveCome 18 = .ok (.iload_n 1, 1)) rfl ?_
    obtain ⟨u11_, g12_, h⟩ := rv_b_e h
    obtain ⟨x14_, g15_, h⟩ := rv_b_e h
    have m13_ := metX9_forgery n S a0 x1 _ g15_
    refine re_cV (pc := 19) [.int x1] m13_ (rv_okl.k ⟨rfl, rfl⟩) (rv_up.rf _ _) (by decide) (rv_ck_e g12_) ⟨by decide, rfl⟩ (Nat.le_of_ble_eq_true rfl) lVX2_118 rfl (by decide +kernel : decode cX2_canHaveCome 19 = .ok (.invokevirtual 118, 3)) ?_
    rcases rv_if_e h with ⟨g16_, h⟩ | ⟨g16_, h⟩
    · refine re_if_eq_t (pc := 22) 27 (by decide +kernel : decode cX2_canHaveCome 22 = .ok (.ifCond .eq 5, 3)) (by decide) g16_ ?_
      refine re_aloadn (pc := 27) 1 (by decide +kernel : decode cX2_canHaveCome 27 = .ok (.aload_n 0, 1)) rfl ?_
      obtain ⟨a17_, g18_, h⟩ := rv_b_e h
      refine re_gR (pc := 28) g18_ lfX2_51 rfl (by decide +kernel : decode cX2_canHaveCome 28 = .ok (.getfield 51, 3)) ?_
      obtain ⟨x19_, g20_, h⟩ := rv_b_e h
      refine re_gI (pc := 31) g20_ lfX2_121 rfl (by decide +kernel : decode cX2_canHaveCome 31 = .ok (.getfield 121, 3)) ?_
      refine re_aloadn (pc := 34) 1 (by decide +kernel : decode cX2_canHaveCome 34 = .ok (.aload_n 0, 1)) rfl ?_
      obtain ⟨a21_, g22_, h⟩ := rv_b_e h
      refine re_gR (pc := 35) g22_ lfX2_51 rfl (by decide +kernel : decode cX2_canHaveCome 35 = .ok (.getfield 51, 3)) ?_
      refine re_aloadn (pc := 38) 0 (by decide +kernel : decode cX2_canHaveCome 38 = .ok (.aload_n 2, 1)) rfl ?_
      obtain ⟨a23_, g24_, h⟩ := rv_b_e h
      refine re_gR (pc := 39) g24_ lfX2_41 rfl (by decide +kernel : decode cX2_canHaveCome 39 = .ok (.getfield 41, 3)) ?_
      refine re_iloadn (pc := 42) 2 (by decide +kernel : decode cX2_canHaveCome 42 = .ok (.iload_n 1, 1)) rfl ?_
      obtain ⟨x25_, g26_, h⟩ := rv_b_e h
      refine re_aI (pc := 43) g26_ (by decide +kernel : decode cX2_canHaveCome 43 = .ok (.iaload, 1)) ?_
      obtain ⟨u27_, g28_, h⟩ := rv_b_e h
      obtain ⟨x30_, g31_, h⟩ := rv_b_e h
      have m29_ := metX1_houseOf n S a21_ x25_ _ g31_
      refine re_cV (pc := 44) [.int x25_] m29_ (rv_okl.k ⟨rfl, rfl⟩) (rv_up.rf _ _) (by decide) (rv_ck_e g28_) ⟨by decide, rfl⟩ (Nat.le_of_ble_eq_true rfl) lVX2_124 rfl (by decide +kernel : decode cX2_canHaveCome 44 = .ok (.invokevirtual 124, 3)) ?_
      refine re_ior (pc := 47) (by decide +kernel : decode cX2_canHaveCome 47 = .ok (.ior, 1)) ?_
      obtain ⟨x32_, g33_, h⟩ := rv_lt_e h
      refine re_nI (pc := 48) g33_ ?_
      refine re_istoren (pc := 48) (lv1 := [(3, .int x32_), (2, .ref a1_), (0, .ref a0), (1, .int x1)]) (by decide +kernel : decode cX2_canHaveCome 48 = .ok (.istore_n 3, 1)) rfl (by decide) rfl ?_
      refine re_iconst (pc := 49) (0 : Int32) (by decide +kernel : decode cX2_canHaveCome 49 = .ok (.iconst 0, 1)) (by decide) ?_
      refine re_istore (pc := 50) (lv1 := [(4, .int (0 : Int32)), (3, .int x32_), (2, .ref a1_), (0, .ref a0), (1, .int x1)]) (by decide +kernel : decode cX2_canHaveCome 50 = .ok (.istore 4, 2)) (by decide) rfl ?_
      refine re_sub [3, 4, 2, 1, 0] (lv1 := [(0, .ref a0), (1, .int x1), (2, .ref a1_), (3, .int x32_), (4, .int (0 : Int32))]) rfl ?_
      exact eX2_canHaveCome_52 n S n a0 x1 a1_ x32_ (0 : Int32) _ h
    · refine re_if_eq_f (pc := 22) 27 (by decide +kernel : decode cX2_canHaveCome 22 = .ok (.ifCond .eq 5, 3)) (by decide) g16_ ?_
      refine re_iconst (pc := 25) (0 : Int32) (by decide +kernel : decode cX2_canHaveCome 25 = .ok (.iconst 0, 1)) (by decide) ?_
      cases h
      exact re_iret (fun ty hty => by cases hty; rfl) (by decide +kernel : decode cX2_canHaveCome 26 = .ok (.ireturn, 1))
theorem metX2_canHaveCome (n : Nat) (S : rvS) (a0 : Nat) (x1 : Int32) (r : Int32) (h : fnX2_canHaveCome n S a0 x1 = some r) : rv_Met yX2_canHaveCome mX2_canHaveCome 4 [.ref a0, .int x1] S (some (.int r)) S := rv_Met.of ⟨by decide +kernel, rfl, (fun z => by first | rfl | cases z), rfl⟩ (Nat.le_of_ble_eq_true rfl) rfl (eX2_canHaveCome_in n S a0 x1 r h)
noncomputable def fnX2_goRound (n : Nat) (S : rvS) (a0 : Nat) (a1 : Nat) (x2 : Int32) : Option (Int32 × rvS) :=
  (fnX2_canHaveCome n S a1 x2).bind fun x2_ =>
  if x2_ = 0 then (
    some ((-1 : Int32), S))
  else (
    (rv_gR S 8 a1 1).bind fun a5_ =>
    (fnX2_stateNow n S a5_ x2).bind fun x8_ =>
    (fnX2_ownerOf n S x8_).bind fun x11_ =>
    (rv_ck S 1 a0).bind fun u13_ =>
    rv_bp (fnX2_spread n S a0 a1 x8_ x11_ x8_) fun x16_ S17_ =>
    if x16_ = (-1 : Int32) then (
      some ((-1 : Int32), S17_))
    else (
      (rv_ck S17_ 1 a0).bind fun u21_ =>
      (fnX2_steps n S17_ a0 x16_).bind fun x24_ =>
      some (x24_ + (1 : Int32), S17_)))
set_option maxRecDepth 20000 in
set_option maxHeartbeats 4000000 in
theorem eX2_goRound_in (n : Nat) (S : rvS) (a0 : Nat) (a1 : Nat) (x2 : Int32) (r : Int32) (S' : rvS) (h : fnX2_goRound n S a0 a1 x2 = some (r, S')) : rv_Ev mX2_goRound 5 0 [(0, .ref a0), (1, .ref a1), (2, .int x2)] [] S (some (.int r)) S' := by
  unfold fnX2_goRound at h
  refine re_aloadn (pc := 0) 1 (by decide +kernel : decode cX2_goRound 0 = .ok (.aload_n 1, 1)) rfl ?_
  refine re_iloadn (pc := 1) 2 (by decide +kernel : decode cX2_goRound 1 = .ok (.iload_n 2, 1)) rfl ?_
  obtain ⟨x2_, g3_, h⟩ := rv_b_e h
  have m1_ := metX2_canHaveCome n S a1 x2 _ g3_
  refine re_cS (pc := 2) [.ref a1, .int x2] m1_ (rv_okl.k ⟨rfl, rfl⟩) (rv_up.rf _ _) (by decide) (Nat.le_of_ble_eq_true rfl) lSX2_108 rfl (by decide +kernel : decode cX2_goRound 2 = .ok (.invokestatic 108, 3)) ?_
  rcases rv_if_e h with ⟨g4_, h⟩ | ⟨g4_, h⟩
  · refine re_if_ne_f (pc := 5) 10 (by decide +kernel : decode cX2_goRound 5 = .ok (.ifCond .ne 5, 3)) (by decide) g4_ ?_
    refine re_iconst (pc := 8) (-1 : Int32) (by decide +kernel : decode cX2_goRound 8 = .ok (.iconst (-1), 1)) (by decide) ?_
    cases h
    exact re_iret (fun ty hty => by cases hty; rfl) (by decide +kernel : decode cX2_goRound 9 = .ok (.ireturn, 1))
  · refine re_if_ne_t (pc := 5) 10 (by decide +kernel : decode cX2_goRound 5 = .ok (.ifCond .ne 5, 3)) (by decide) g4_ ?_
    refine re_aloadn (pc := 10) 1 (by decide +kernel : decode cX2_goRound 10 = .ok (.aload_n 1, 1)) rfl ?_
    obtain ⟨a5_, g6_, h⟩ := rv_b_e h
    refine re_gR (pc := 11) g6_ lfX2_67 rfl (by decide +kernel : decode cX2_goRound 11 = .ok (.getfield 67, 3)) ?_
    refine re_iloadn (pc := 14) 2 (by decide +kernel : decode cX2_goRound 14 = .ok (.iload_n 2, 1)) rfl ?_
    obtain ⟨x8_, g9_, h⟩ := rv_b_e h
    have m7_ := metX2_stateNow n S a5_ x2 _ g9_
    refine re_cS (pc := 15) [.ref a5_, .int x2] m7_ (rv_okl.k ⟨rfl, rfl⟩) (rv_up.rf _ _) (by decide) (Nat.le_of_ble_eq_true rfl) lSX2_83 rfl (by decide +kernel : decode cX2_goRound 15 = .ok (.invokestatic 83, 3)) ?_
    refine re_istoren (pc := 18) (lv1 := [(3, .int x8_), (0, .ref a0), (1, .ref a1), (2, .int x2)]) (by decide +kernel : decode cX2_goRound 18 = .ok (.istore_n 3, 1)) rfl (by decide) rfl ?_
    refine re_aloadn (pc := 19) 1 (by decide +kernel : decode cX2_goRound 19 = .ok (.aload_n 0, 1)) rfl ?_
    refine re_aloadn (pc := 20) 2 (by decide +kernel : decode cX2_goRound 20 = .ok (.aload_n 1, 1)) rfl ?_
    refine re_iloadn (pc := 21) 0 (by decide +kernel : decode cX2_goRound 21 = .ok (.iload_n 3, 1)) rfl ?_
    refine re_iloadn (pc := 22) 0 (by decide +kernel : decode cX2_goRound 22 = .ok (.iload_n 3, 1)) rfl ?_
    obtain ⟨x11_, g12_, h⟩ := rv_b_e h
    have m10_ := metX2_ownerOf n S x8_ _ g12_
    refine re_cS (pc := 23) [.int x8_] m10_ (rv_okl.k ⟨rfl, rfl⟩) (rv_up.rf _ _) (by decide) (Nat.le_of_ble_eq_true rfl) lSX2_57 rfl (by decide +kernel : decode cX2_goRound 23 = .ok (.invokestatic 57, 3)) ?_
    refine re_iloadn (pc := 26) 0 (by decide +kernel : decode cX2_goRound 26 = .ok (.iload_n 3, 1)) rfl ?_
    obtain ⟨u13_, g14_, h⟩ := rv_b_e h
    obtain ⟨x16_, S17_, g18_, h⟩ := rv_bp_e h
    have m15_ := metX2_spread n S a0 a1 x8_ x11_ x8_ _ _ g18_
    have z19_ : rv_same S S17_ := m15_.sh rfl
    refine re_cV (pc := 27) [.ref a1, .int x8_, .int x11_, .int x8_] m15_ (rv_okl.k z19_) (rv_up.sh z19_) (by decide) (rv_ck_e g14_) ⟨by decide, rfl⟩ (Nat.le_of_ble_eq_true rfl) lVX2_97 rfl (by decide +kernel : decode cX2_goRound 27 = .ok (.invokevirtual 97, 3)) ?_
    refine re_istore (pc := 30) (lv1 := [(4, .int x16_), (3, .int x8_), (0, .ref a0), (1, .ref a1), (2, .int x2)]) (by decide +kernel : decode cX2_goRound 30 = .ok (.istore 4, 2)) (by decide) rfl ?_
    refine re_iload (pc := 32) 0 (by decide +kernel : decode cX2_goRound 32 = .ok (.iload 4, 2)) rfl ?_
    refine re_iconst (pc := 34) (-1 : Int32) (by decide +kernel : decode cX2_goRound 34 = .ok (.iconst (-1), 1)) (by decide) ?_
    rcases rv_if_e h with ⟨g20_, h⟩ | ⟨g20_, h⟩
    · refine re_icmp_ne_f (pc := 35) 42 (by decide +kernel : decode cX2_goRound 35 = .ok (.if_icmp .ne 7, 3)) (by decide) g20_ ?_
      refine re_iconst (pc := 38) (-1 : Int32) (by decide +kernel : decode cX2_goRound 38 = .ok (.iconst (-1), 1)) (by decide) ?_
      refine re_goto (pc := 39) 50 (by decide +kernel : decode cX2_goRound 39 = .ok (.goto 11, 3)) (by decide) ?_
      cases h
      exact re_iret (fun ty hty => by cases hty; rfl) (by decide +kernel : decode cX2_goRound 50 = .ok (.ireturn, 1))
    · refine re_icmp_ne_t (pc := 35) 42 (by decide +kernel : decode cX2_goRound 35 = .ok (.if_icmp .ne 7, 3)) (by decide) g20_ ?_
      refine re_aloadn (pc := 42) 2 (by decide +kernel : decode cX2_goRound 42 = .ok (.aload_n 0, 1)) rfl ?_
      refine re_iload (pc := 43) 0 (by decide +kernel : decode cX2_goRound 43 = .ok (.iload 4, 2)) rfl ?_
      obtain ⟨u21_, g22_, h⟩ := rv_b_e h
      obtain ⟨x24_, g25_, h⟩ := rv_b_e h
      have m23_ := metX2_steps n S17_ a0 x16_ _ g25_
      refine re_cV (pc := 45) [.int x16_] m23_ (rv_okl.k ⟨rfl, rfl⟩) (rv_up.rf _ _) (by decide) (rv_ck_e g22_) ⟨by decide, rfl⟩ (Nat.le_of_ble_eq_true rfl) lVX2_101 rfl (by decide +kernel : decode cX2_goRound 45 = .ok (.invokevirtual 101, 3)) ?_
      refine re_iconst (pc := 48) (1 : Int32) (by decide +kernel : decode cX2_goRound 48 = .ok (.iconst 1, 1)) (by decide) ?_
      refine re_iadd (pc := 49) (by decide +kernel : decode cX2_goRound 49 = .ok (.iadd, 1)) ?_
      cases h
      exact re_iret (fun ty hty => by cases hty; rfl) (by decide +kernel : decode cX2_goRound 50 = .ok (.ireturn, 1))
theorem metX2_goRound (n : Nat) (S : rvS) (a0 : Nat) (a1 : Nat) (x2 : Int32) (r : Int32) (S' : rvS) (h : fnX2_goRound n S a0 a1 x2 = some (r, S')) : rv_Met yX2_goRound mX2_goRound 5 [.ref a0, .ref a1, .int x2] S (some (.int r)) S' := rv_Met.of ⟨by decide +kernel, rfl, (fun z => by first | rfl | cases z), rfl⟩ (Nat.le_of_ble_eq_true rfl) rfl (eX2_goRound_in n S a0 a1 x2 r S' h)
noncomputable def fnX2_handOf (n : Nat) (S : rvS) (a0 : Nat) (x1 : Int32) : Option Int32 :=
  if x1 < 0 then (
    some (-1 : Int32))
  else (
    (rv_gI S 1 a0 5).bind fun x2_ =>
    if x2_ ≤ x1 then (
      some (-1 : Int32))
    else (
      if (1024 : Int32) ≤ x1 then (
        some (-1 : Int32))
      else (
        (rv_gR S 1 a0 4).bind fun a6_ =>
        (rv_aI S 0 a6_ x1).bind fun x8_ =>
        some x8_)))
set_option maxRecDepth 20000 in
set_option maxHeartbeats 4000000 in
theorem eX2_handOf_in (n : Nat) (S : rvS) (a0 : Nat) (x1 : Int32) (r : Int32) (h : fnX2_handOf n S a0 x1 = some r) : rv_Ev mX2_handOf 0 0 [(0, .ref a0), (1, .int x1)] [] S (some (.int r)) S := by
  unfold fnX2_handOf at h
  refine re_iloadn (pc := 0) 1 (by decide +kernel : decode cX2_handOf 0 = .ok (.iload_n 1, 1)) rfl ?_
  rcases rv_if_e h with ⟨g1_, h⟩ | ⟨g1_, h⟩
  · refine re_if_lt_t (pc := 1) 28 (by decide +kernel : decode cX2_handOf 1 = .ok (.ifCond .lt 27, 3)) (by decide) g1_ ?_
    refine re_iconst (pc := 28) (-1 : Int32) (by decide +kernel : decode cX2_handOf 28 = .ok (.iconst (-1), 1)) (by decide) ?_
    cases h
    exact re_iret (fun ty hty => by cases hty; rfl) (by decide +kernel : decode cX2_handOf 29 = .ok (.ireturn, 1))
  · refine re_if_lt_f (pc := 1) 28 (by decide +kernel : decode cX2_handOf 1 = .ok (.ifCond .lt 27, 3)) (by decide) g1_ ?_
    refine re_iloadn (pc := 4) 1 (by decide +kernel : decode cX2_handOf 4 = .ok (.iload_n 1, 1)) rfl ?_
    refine re_aloadn (pc := 5) 0 (by decide +kernel : decode cX2_handOf 5 = .ok (.aload_n 0, 1)) rfl ?_
    obtain ⟨x2_, g3_, h⟩ := rv_b_e h
    refine re_gI (pc := 6) g3_ lfX2_87 rfl (by decide +kernel : decode cX2_handOf 6 = .ok (.getfield 87, 3)) ?_
    rcases rv_if_e h with ⟨g4_, h⟩ | ⟨g4_, h⟩
    · refine re_icmp_ge_t (pc := 9) 28 (by decide +kernel : decode cX2_handOf 9 = .ok (.if_icmp .ge 19, 3)) (by decide) g4_ ?_
      refine re_iconst (pc := 28) (-1 : Int32) (by decide +kernel : decode cX2_handOf 28 = .ok (.iconst (-1), 1)) (by decide) ?_
      cases h
      exact re_iret (fun ty hty => by cases hty; rfl) (by decide +kernel : decode cX2_handOf 29 = .ok (.ireturn, 1))
    · refine re_icmp_ge_f (pc := 9) 28 (by decide +kernel : decode cX2_handOf 9 = .ok (.if_icmp .ge 19, 3)) (by decide) g4_ ?_
      refine re_iloadn (pc := 12) 1 (by decide +kernel : decode cX2_handOf 12 = .ok (.iload_n 1, 1)) rfl ?_
      refine re_sipush (pc := 13) (1024 : Int32) (by decide +kernel : decode cX2_handOf 13 = .ok (.sipush 1024, 3)) (by decide) ?_
      rcases rv_if_e h with ⟨g5_, h⟩ | ⟨g5_, h⟩
      · refine re_icmp_ge_t (pc := 16) 28 (by decide +kernel : decode cX2_handOf 16 = .ok (.if_icmp .ge 12, 3)) (by decide) g5_ ?_
        refine re_iconst (pc := 28) (-1 : Int32) (by decide +kernel : decode cX2_handOf 28 = .ok (.iconst (-1), 1)) (by decide) ?_
        cases h
        exact re_iret (fun ty hty => by cases hty; rfl) (by decide +kernel : decode cX2_handOf 29 = .ok (.ireturn, 1))
      · refine re_icmp_ge_f (pc := 16) 28 (by decide +kernel : decode cX2_handOf 16 = .ok (.if_icmp .ge 12, 3)) (by decide) g5_ ?_
        refine re_aloadn (pc := 19) 0 (by decide +kernel : decode cX2_handOf 19 = .ok (.aload_n 0, 1)) rfl ?_
        obtain ⟨a6_, g7_, h⟩ := rv_b_e h
        refine re_gR (pc := 20) g7_ lfX2_26 rfl (by decide +kernel : decode cX2_handOf 20 = .ok (.getfield 26, 3)) ?_
        refine re_iloadn (pc := 23) 1 (by decide +kernel : decode cX2_handOf 23 = .ok (.iload_n 1, 1)) rfl ?_
        obtain ⟨x8_, g9_, h⟩ := rv_b_e h
        refine re_aI (pc := 24) g9_ (by decide +kernel : decode cX2_handOf 24 = .ok (.iaload, 1)) ?_
        refine re_goto (pc := 25) 29 (by decide +kernel : decode cX2_handOf 25 = .ok (.goto 4, 3)) (by decide) ?_
        cases h
        exact re_iret (fun ty hty => by cases hty; rfl) (by decide +kernel : decode cX2_handOf 29 = .ok (.ireturn, 1))
theorem metX2_handOf (n : Nat) (S : rvS) (a0 : Nat) (x1 : Int32) (r : Int32) (h : fnX2_handOf n S a0 x1 = some r) : rv_Met yX2_handOf mX2_handOf 0 [.ref a0, .int x1] S (some (.int r)) S := rv_Met.of ⟨by decide +kernel, rfl, (fun z => by first | rfl | cases z), rfl⟩ (Nat.le_of_ble_eq_true rfl) rfl (eX2_handOf_in n S a0 x1 r h)
noncomputable def fnX2_enter (n : Nat) (S : rvS) (a0 : Nat) (x1 : Int32) (x2 : Int32) : Option rvS :=
  if x2 < 0 then (
    some S)
  else (
    if (266240 : Int32) ≤ x2 then (
      some S)
    else (
      (rv_gR S 1 a0 0).bind fun a3_ =>
      (rv_ck S 1 a0).bind fun u5_ =>
      (fnX2_codeOf n S a0 x1).bind fun x8_ =>
      (fnX2_put n S a3_ x8_ (1 : Int32)).bind fun S11_ =>
      (rv_gR S11_ 1 a0 1).bind fun a14_ =>
      (rv_ck S11_ 1 a0).bind fun u16_ =>
      (fnX2_codeOf n S11_ a0 x1).bind fun x19_ =>
      (fnX2_put n S11_ a14_ x19_ (1 : Int32)).bind fun S22_ =>
      (rv_gR S22_ 1 a0 2).bind fun a25_ =>
      (rv_uL S22_ a25_ x2 (x1.toInt64)).bind fun S27_ =>
      some S27_))
set_option maxRecDepth 20000 in
set_option maxHeartbeats 4000000 in
theorem eX2_enter_in (n : Nat) (S : rvS) (a0 : Nat) (x1 : Int32) (x2 : Int32) (S' : rvS) (h : fnX2_enter n S a0 x1 x2 = some S') : rv_Ev mX2_enter 2 0 [(0, .ref a0), (1, .int x1), (2, .int x2)] [] S none S' := by
  unfold fnX2_enter at h
  refine re_iloadn (pc := 0) 2 (by decide +kernel : decode cX2_enter 0 = .ok (.iload_n 2, 1)) rfl ?_
  rcases rv_if_e h with ⟨g1_, h⟩ | ⟨g1_, h⟩
  · refine re_if_lt_t (pc := 1) 44 (by decide +kernel : decode cX2_enter 1 = .ok (.ifCond .lt 43, 3)) (by decide) g1_ ?_
    cases h
    exact re_vret (by decide +kernel : decode cX2_enter 44 = .ok (.return_, 1))
  · refine re_if_lt_f (pc := 1) 44 (by decide +kernel : decode cX2_enter 1 = .ok (.ifCond .lt 43, 3)) (by decide) g1_ ?_
    refine re_iloadn (pc := 4) 2 (by decide +kernel : decode cX2_enter 4 = .ok (.iload_n 2, 1)) rfl ?_
    refine re_ldc (pc := 5) (v := 266240) (rw2 53 (by decide +kernel) rfl) (by decide +kernel : decode cX2_enter 5 = .ok (.ldc 22, 2)) ?_
    rcases rv_if_e h with ⟨g2_, h⟩ | ⟨g2_, h⟩
    · refine re_icmp_ge_t (pc := 7) 44 (by decide +kernel : decode cX2_enter 7 = .ok (.if_icmp .ge 37, 3)) (by decide) g2_ ?_
      cases h
      exact re_vret (by decide +kernel : decode cX2_enter 44 = .ok (.return_, 1))
    · refine re_icmp_ge_f (pc := 7) 44 (by decide +kernel : decode cX2_enter 7 = .ok (.if_icmp .ge 37, 3)) (by decide) g2_ ?_
      refine re_aloadn (pc := 10) 0 (by decide +kernel : decode cX2_enter 10 = .ok (.aload_n 0, 1)) rfl ?_
      obtain ⟨a3_, g4_, h⟩ := rv_b_e h
      refine re_gR (pc := 11) g4_ lfX2_15 rfl (by decide +kernel : decode cX2_enter 11 = .ok (.getfield 15, 3)) ?_
      refine re_aloadn (pc := 14) 0 (by decide +kernel : decode cX2_enter 14 = .ok (.aload_n 0, 1)) rfl ?_
      refine re_iloadn (pc := 15) 1 (by decide +kernel : decode cX2_enter 15 = .ok (.iload_n 1, 1)) rfl ?_
      obtain ⟨u5_, g6_, h⟩ := rv_b_e h
      obtain ⟨x8_, g9_, h⟩ := rv_b_e h
      have m7_ := metX2_codeOf n S a0 x1 _ g9_
      refine re_cV (pc := 16) [.int x1] m7_ (rv_okl.k ⟨rfl, rfl⟩) (rv_up.rf _ _) (by decide) (rv_ck_e g6_) ⟨by decide, rfl⟩ (Nat.le_of_ble_eq_true rfl) lVX2_134 rfl (by decide +kernel : decode cX2_enter 16 = .ok (.invokevirtual 134, 3)) ?_
      refine re_iconst (pc := 19) (1 : Int32) (by decide +kernel : decode cX2_enter 19 = .ok (.iconst 1, 1)) (by decide) ?_
      obtain ⟨S11_, g12_, h⟩ := rv_b_e h
      have m10_ := metX2_put n S a3_ x8_ (1 : Int32) _ g12_
      have z13_ : rv_same S S11_ := m10_.sh rfl
      refine re_cS (pc := 20) [.ref a3_, .int x8_, .int (1 : Int32)] m10_ (rv_okl.k z13_) (rv_up.sh z13_) (by decide) (Nat.le_of_ble_eq_true rfl) lSX2_137 rfl (by decide +kernel : decode cX2_enter 20 = .ok (.invokestatic 137, 3)) ?_
      refine re_aloadn (pc := 23) 0 (by decide +kernel : decode cX2_enter 23 = .ok (.aload_n 0, 1)) rfl ?_
      obtain ⟨a14_, g15_, h⟩ := rv_b_e h
      refine re_gR (pc := 24) g15_ lfX2_19 rfl (by decide +kernel : decode cX2_enter 24 = .ok (.getfield 19, 3)) ?_
      refine re_aloadn (pc := 27) 0 (by decide +kernel : decode cX2_enter 27 = .ok (.aload_n 0, 1)) rfl ?_
      refine re_iloadn (pc := 28) 1 (by decide +kernel : decode cX2_enter 28 = .ok (.iload_n 1, 1)) rfl ?_
      obtain ⟨u16_, g17_, h⟩ := rv_b_e h
      obtain ⟨x19_, g20_, h⟩ := rv_b_e h
      have m18_ := metX2_codeOf n S11_ a0 x1 _ g20_
      refine re_cV (pc := 29) [.int x1] m18_ (rv_okl.k ⟨rfl, rfl⟩) (rv_up.rf _ _) (by decide) (rv_ck_e g17_) ⟨by decide, rfl⟩ (Nat.le_of_ble_eq_true rfl) lVX2_134 rfl (by decide +kernel : decode cX2_enter 29 = .ok (.invokevirtual 134, 3)) ?_
      refine re_iconst (pc := 32) (1 : Int32) (by decide +kernel : decode cX2_enter 32 = .ok (.iconst 1, 1)) (by decide) ?_
      obtain ⟨S22_, g23_, h⟩ := rv_b_e h
      have m21_ := metX2_put n S11_ a14_ x19_ (1 : Int32) _ g23_
      have z24_ : rv_same S11_ S22_ := m21_.sh rfl
      refine re_cS (pc := 33) [.ref a14_, .int x19_, .int (1 : Int32)] m21_ (rv_okl.k z24_) (rv_up.sh z24_) (by decide) (Nat.le_of_ble_eq_true rfl) lSX2_137 rfl (by decide +kernel : decode cX2_enter 33 = .ok (.invokestatic 137, 3)) ?_
      refine re_aloadn (pc := 36) 0 (by decide +kernel : decode cX2_enter 36 = .ok (.aload_n 0, 1)) rfl ?_
      obtain ⟨a25_, g26_, h⟩ := rv_b_e h
      refine re_gR (pc := 37) g26_ lfX2_23 rfl (by decide +kernel : decode cX2_enter 37 = .ok (.getfield 23, 3)) ?_
      refine re_iloadn (pc := 40) 2 (by decide +kernel : decode cX2_enter 40 = .ok (.iload_n 2, 1)) rfl ?_
      refine re_iloadn (pc := 41) 1 (by decide +kernel : decode cX2_enter 41 = .ok (.iload_n 1, 1)) rfl ?_
      refine re_i2l (pc := 42) (by decide +kernel : decode cX2_enter 42 = .ok (.i2l, 1)) ?_
      obtain ⟨S27_, g28_, h⟩ := rv_b_e h
      refine re_uL (pc := 43) g28_ (by decide +kernel : decode cX2_enter 43 = .ok (.lastore, 1)) ?_
      cases h
      exact re_vret (by decide +kernel : decode cX2_enter 44 = .ok (.return_, 1))
theorem metX2_enter (n : Nat) (S : rvS) (a0 : Nat) (x1 : Int32) (x2 : Int32) (S' : rvS) (h : fnX2_enter n S a0 x1 x2 = some S') : rv_Met yX2_enter mX2_enter 2 [.ref a0, .int x1, .int x2] S none S' := rv_Met.of ⟨by decide +kernel, rfl, (fun z => by first | rfl | cases z), rfl⟩ (Nat.le_of_ble_eq_true rfl) rfl (eX2_enter_in n S a0 x1 x2 S' h)
noncomputable def cX2_nextHand_23 (n : Nat) (S : rvS) : Nat → Nat → Int32 → Int32 → Option Int32
  | 0, _, _, _ => none
  | k + 1, a0, x4, x5 =>
    if x5 = 0 then (
      some (-1 : Int32))
    else (
      (fnX12_lowest n S x5).bind fun x3_ =>
      (rv_gR S 1 a0 0).bind fun a5_ =>
      (fnX2_isIn n S a5_ (x4 + x3_)).bind fun x8_ =>
      if x8_ = 0 then (
        some x3_)
      else (
        (rv_gR S 1 a0 1).bind fun a11_ =>
        (fnX2_isIn n S a11_ (x4 + x3_)).bind fun x14_ =>
        if x14_ = 0 then (
          rv_lt (x5 &&& (x5 - (1 : Int32))) fun x17_ =>
          cX2_nextHand_23 n S k a0 x4 x17_)
        else (
          some x3_)))
set_option maxRecDepth 20000 in
set_option maxHeartbeats 4000000 in
theorem eX2_nextHand_23 (n : Nat) (S : rvS) : ∀ (k : Nat) (a0 : Nat) (x4 : Int32) (x5 : Int32) (r : Int32), cX2_nextHand_23 n S k a0 x4 x5 = some r → rv_Ev mX2_nextHand 3 23 [(0, .ref a0), (4, .int x4), (5, .int x5)] [] S (some (.int r)) S := by
  intro k
  induction k with
  | zero => intro a0 x4 x5 r h; exact absurd h (by simp [cX2_nextHand_23])
  | succ k ih =>
    intro a0 x4 x5 r h
    unfold cX2_nextHand_23 at h
    refine re_iload (pc := 23) 2 (by decide +kernel : decode cX2_nextHand 23 = .ok (.iload 5, 2)) rfl ?_
    rcases rv_if_e h with ⟨g1_, h⟩ | ⟨g1_, h⟩
    · refine re_if_eq_t (pc := 25) 80 (by decide +kernel : decode cX2_nextHand 25 = .ok (.ifCond .eq 55, 3)) (by decide) g1_ ?_
      refine re_iconst (pc := 80) (-1 : Int32) (by decide +kernel : decode cX2_nextHand 80 = .ok (.iconst (-1), 1)) (by decide) ?_
      cases h
      exact re_iret (fun ty hty => by cases hty; rfl) (by decide +kernel : decode cX2_nextHand 81 = .ok (.ireturn, 1))
    · refine re_if_eq_f (pc := 25) 80 (by decide +kernel : decode cX2_nextHand 25 = .ok (.ifCond .eq 55, 3)) (by decide) g1_ ?_
      refine re_iload (pc := 28) 2 (by decide +kernel : decode cX2_nextHand 28 = .ok (.iload 5, 2)) rfl ?_
      obtain ⟨x3_, g4_, h⟩ := rv_b_e h
      have m2_ := metX12_lowest n S x5 _ g4_
      refine re_cS (pc := 30) [.int x5] m2_ (rv_okl.k ⟨rfl, rfl⟩) (rv_up.rf _ _) (by decide) (Nat.le_of_ble_eq_true rfl) lSX2_148 rfl (by decide +kernel : decode cX2_nextHand 30 = .ok (.invokestatic 148, 3)) ?_
      refine re_istore (pc := 33) (lv1 := [(6, .int x3_), (0, .ref a0), (4, .int x4), (5, .int x5)]) (by decide +kernel : decode cX2_nextHand 33 = .ok (.istore 6, 2)) (by decide) rfl ?_
      refine re_aloadn (pc := 35) 1 (by decide +kernel : decode cX2_nextHand 35 = .ok (.aload_n 0, 1)) rfl ?_
      obtain ⟨a5_, g6_, h⟩ := rv_b_e h
      refine re_gR (pc := 36) g6_ lfX2_15 rfl (by decide +kernel : decode cX2_nextHand 36 = .ok (.getfield 15, 3)) ?_
      refine re_iload (pc := 39) 2 (by decide +kernel : decode cX2_nextHand 39 = .ok (.iload 4, 2)) rfl ?_
      refine re_iload (pc := 41) 0 (by decide +kernel : decode cX2_nextHand 41 = .ok (.iload 6, 2)) rfl ?_
      refine re_iadd (pc := 43) (by decide +kernel : decode cX2_nextHand 43 = .ok (.iadd, 1)) ?_
      obtain ⟨x8_, g9_, h⟩ := rv_b_e h
      have m7_ := metX2_isIn n S a5_ (x4 + x3_) _ g9_
      refine re_cS (pc := 44) [.ref a5_, .int (x4 + x3_)] m7_ (rv_okl.k ⟨rfl, rfl⟩) (rv_up.rf _ _) (by decide) (Nat.le_of_ble_eq_true rfl) lSX2_151 rfl (by decide +kernel : decode cX2_nextHand 44 = .ok (.invokestatic 151, 3)) ?_
      rcases rv_if_e h with ⟨g10_, h⟩ | ⟨g10_, h⟩
      · refine re_if_eq_t (pc := 47) 65 (by decide +kernel : decode cX2_nextHand 47 = .ok (.ifCond .eq 18, 3)) (by decide) g10_ ?_
        refine re_iload (pc := 65) 0 (by decide +kernel : decode cX2_nextHand 65 = .ok (.iload 6, 2)) rfl ?_
        cases h
        exact re_iret (fun ty hty => by cases hty; rfl) (by decide +kernel : decode cX2_nextHand 67 = .ok (.ireturn, 1))
      · refine re_if_eq_f (pc := 47) 65 (by decide +kernel : decode cX2_nextHand 47 = .ok (.ifCond .eq 18, 3)) (by decide) g10_ ?_
        refine re_aloadn (pc := 50) 1 (by decide +kernel : decode cX2_nextHand 50 = .ok (.aload_n 0, 1)) rfl ?_
        obtain ⟨a11_, g12_, h⟩ := rv_b_e h
        refine re_gR (pc := 51) g12_ lfX2_19 rfl (by decide +kernel : decode cX2_nextHand 51 = .ok (.getfield 19, 3)) ?_
        refine re_iload (pc := 54) 2 (by decide +kernel : decode cX2_nextHand 54 = .ok (.iload 4, 2)) rfl ?_
        refine re_iload (pc := 56) 0 (by decide +kernel : decode cX2_nextHand 56 = .ok (.iload 6, 2)) rfl ?_
        refine re_iadd (pc := 58) (by decide +kernel : decode cX2_nextHand 58 = .ok (.iadd, 1)) ?_
        obtain ⟨x14_, g15_, h⟩ := rv_b_e h
        have m13_ := metX2_isIn n S a11_ (x4 + x3_) _ g15_
        refine re_cS (pc := 59) [.ref a11_, .int (x4 + x3_)] m13_ (rv_okl.k ⟨rfl, rfl⟩) (rv_up.rf _ _) (by decide) (Nat.le_of_ble_eq_true rfl) lSX2_151 rfl (by decide +kernel : decode cX2_nextHand 59 = .ok (.invokestatic 151, 3)) ?_
        rcases rv_if_e h with ⟨g16_, h⟩ | ⟨g16_, h⟩
        · refine re_if_eq_t (pc := 62) 68 (by decide +kernel : decode cX2_nextHand 62 = .ok (.ifCond .eq 6, 3)) (by decide) g16_ ?_
          refine re_iload (pc := 68) 3 (by decide +kernel : decode cX2_nextHand 68 = .ok (.iload 5, 2)) rfl ?_
          refine re_iload (pc := 70) 3 (by decide +kernel : decode cX2_nextHand 70 = .ok (.iload 5, 2)) rfl ?_
          refine re_iconst (pc := 72) (1 : Int32) (by decide +kernel : decode cX2_nextHand 72 = .ok (.iconst 1, 1)) (by decide) ?_
          refine re_isub (pc := 73) (by decide +kernel : decode cX2_nextHand 73 = .ok (.isub, 1)) ?_
          refine re_iand (pc := 74) (by decide +kernel : decode cX2_nextHand 74 = .ok (.iand, 1)) ?_
          obtain ⟨x17_, g18_, h⟩ := rv_lt_e h
          refine re_nI (pc := 75) g18_ ?_
          refine re_istore (pc := 75) (lv1 := [(5, .int x17_), (6, .int x3_), (0, .ref a0), (4, .int x4)]) (by decide +kernel : decode cX2_nextHand 75 = .ok (.istore 5, 2)) (by decide) rfl ?_
          refine re_goto (pc := 77) 23 (by decide +kernel : decode cX2_nextHand 77 = .ok (.goto (-54), 3)) (by decide) ?_
          refine re_sub [2, 3, 0] (lv1 := [(0, .ref a0), (4, .int x4), (5, .int x17_)]) rfl ?_
          exact ih a0 x4 x17_ _ h
        · refine re_if_eq_f (pc := 62) 68 (by decide +kernel : decode cX2_nextHand 62 = .ok (.ifCond .eq 6, 3)) (by decide) g16_ ?_
          refine re_iload (pc := 65) 0 (by decide +kernel : decode cX2_nextHand 65 = .ok (.iload 6, 2)) rfl ?_
          cases h
          exact re_iret (fun ty hty => by cases hty; rfl) (by decide +kernel : decode cX2_nextHand 67 = .ok (.ireturn, 1))
noncomputable def fnX2_nextHand (n : Nat) (S : rvS) (a0 : Nat) (a1 : Nat) (x2 : Int32) (x3 : Int32) : Option Int32 :=
  (fnX2_after n S a1 x2 (0 : Int32)).bind fun x2_ =>
  (rv_ck S 1 a0).bind fun u4_ =>
  (fnX2_codeOf n S a0 x2_).bind fun x7_ =>
  (fnX2_goers n S a1 x2).bind fun x10_ =>
  rv_lt (x10_ &&& ((-1 : Int32) <<< (x3 &&& 31))) fun x12_ =>
  cX2_nextHand_23 n S n a0 x7_ x12_
set_option maxRecDepth 20000 in
set_option maxHeartbeats 4000000 in
theorem eX2_nextHand_in (n : Nat) (S : rvS) (a0 : Nat) (a1 : Nat) (x2 : Int32) (x3 : Int32) (r : Int32) (h : fnX2_nextHand n S a0 a1 x2 x3 = some r) : rv_Ev mX2_nextHand 3 0 [(0, .ref a0), (1, .ref a1), (2, .int x2), (3, .int x3)] [] S (some (.int r)) S := by
  unfold fnX2_nextHand at h
  refine re_aloadn (pc := 0) 0 (by decide +kernel : decode cX2_nextHand 0 = .ok (.aload_n 0, 1)) rfl ?_
  refine re_aloadn (pc := 1) 1 (by decide +kernel : decode cX2_nextHand 1 = .ok (.aload_n 1, 1)) rfl ?_
  refine re_iloadn (pc := 2) 2 (by decide +kernel : decode cX2_nextHand 2 = .ok (.iload_n 2, 1)) rfl ?_
  refine re_iconst (pc := 3) (0 : Int32) (by decide +kernel : decode cX2_nextHand 3 = .ok (.iconst 0, 1)) (by decide) ?_
  obtain ⟨x2_, g3_, h⟩ := rv_b_e h
  have m1_ := metX2_after n S a1 x2 (0 : Int32) _ g3_
  refine re_cS (pc := 4) [.ref a1, .int x2, .int (0 : Int32)] m1_ (rv_okl.k ⟨rfl, rfl⟩) (rv_up.rf _ _) (by decide) (Nat.le_of_ble_eq_true rfl) lSX2_144 rfl (by decide +kernel : decode cX2_nextHand 4 = .ok (.invokestatic 144, 3)) ?_
  obtain ⟨u4_, g5_, h⟩ := rv_b_e h
  obtain ⟨x7_, g8_, h⟩ := rv_b_e h
  have m6_ := metX2_codeOf n S a0 x2_ _ g8_
  refine re_cV (pc := 7) [.int x2_] m6_ (rv_okl.k ⟨rfl, rfl⟩) (rv_up.rf _ _) (by decide) (rv_ck_e g5_) ⟨by decide, rfl⟩ (Nat.le_of_ble_eq_true rfl) lVX2_134 rfl (by decide +kernel : decode cX2_nextHand 7 = .ok (.invokevirtual 134, 3)) ?_
  refine re_istore (pc := 10) (lv1 := [(4, .int x7_), (0, .ref a0), (1, .ref a1), (2, .int x2), (3, .int x3)]) (by decide +kernel : decode cX2_nextHand 10 = .ok (.istore 4, 2)) (by decide) rfl ?_
  refine re_aloadn (pc := 12) 2 (by decide +kernel : decode cX2_nextHand 12 = .ok (.aload_n 1, 1)) rfl ?_
  refine re_iloadn (pc := 13) 3 (by decide +kernel : decode cX2_nextHand 13 = .ok (.iload_n 2, 1)) rfl ?_
  obtain ⟨x10_, g11_, h⟩ := rv_b_e h
  have m9_ := metX2_goers n S a1 x2 _ g11_
  refine re_cS (pc := 14) [.ref a1, .int x2] m9_ (rv_okl.k ⟨rfl, rfl⟩) (rv_up.rf _ _) (by decide) (Nat.le_of_ble_eq_true rfl) lSX2_141 rfl (by decide +kernel : decode cX2_nextHand 14 = .ok (.invokestatic 141, 3)) ?_
  refine re_iconst (pc := 17) (-1 : Int32) (by decide +kernel : decode cX2_nextHand 17 = .ok (.iconst (-1), 1)) (by decide) ?_
  refine re_iloadn (pc := 18) 4 (by decide +kernel : decode cX2_nextHand 18 = .ok (.iload_n 3, 1)) rfl ?_
  refine re_ishl (pc := 19) (by decide +kernel : decode cX2_nextHand 19 = .ok (.ishl, 1)) ?_
  refine re_iand (pc := 20) (by decide +kernel : decode cX2_nextHand 20 = .ok (.iand, 1)) ?_
  obtain ⟨x12_, g13_, h⟩ := rv_lt_e h
  refine re_nI (pc := 21) g13_ ?_
  refine re_istore (pc := 21) (lv1 := [(5, .int x12_), (4, .int x7_), (0, .ref a0), (1, .ref a1), (2, .int x2), (3, .int x3)]) (by decide +kernel : decode cX2_nextHand 21 = .ok (.istore 5, 2)) (by decide) rfl ?_
  refine re_sub [2, 1, 0] (lv1 := [(0, .ref a0), (4, .int x7_), (5, .int x12_)]) rfl ?_
  exact eX2_nextHand_23 n S n a0 x7_ x12_ _ h
theorem metX2_nextHand (n : Nat) (S : rvS) (a0 : Nat) (a1 : Nat) (x2 : Int32) (x3 : Int32) (r : Int32) (h : fnX2_nextHand n S a0 a1 x2 x3 = some r) : rv_Met yX2_nextHand mX2_nextHand 3 [.ref a0, .ref a1, .int x2, .int x3] S (some (.int r)) S := rv_Met.of ⟨by decide +kernel, rfl, (fun z => by first | rfl | cases z), rfl⟩ (Nat.le_of_ble_eq_true rfl) rfl (eX2_nextHand_in n S a0 a1 x2 x3 r h)
noncomputable def cX2_goesForEver_29 (n : Nat) : Nat → rvS → Nat → Nat → Int32 → Int32 → Int32 → Option (Int32 × rvS)
  | 0, _, _, _, _, _, _ => none
  | k + 1, S, a0, a1, x4, x5, x6 =>
    if (1064960 : Int32) ≤ x6 then (
      some ((0 : Int32), S))
    else (
      if x4 ≤ 0 then (
        some ((0 : Int32), S))
      else (
        if (266240 : Int32) ≤ x4 then (
          some ((0 : Int32), S))
        else (
          (rv_gR S 1 a0 2).bind fun a4_ =>
          (rv_aL S a4_ (x4 - (1 : Int32))).bind fun x6_ =>
          rv_lt ((x6_.toInt32) &&& (1048575 : Int32)) fun x8_ =>
          (rv_ck S 1 a0).bind fun u10_ =>
          (fnX2_nextHand n S a0 a1 x8_ x5).bind fun x13_ =>
          if x13_ = (-1 : Int32) then (
            (rv_gR S 1 a0 1).bind fun a40_ =>
            (rv_ck S 1 a0).bind fun u42_ =>
            (fnX2_codeOf n S a0 x8_).bind fun x45_ =>
            (fnX2_put n S a40_ x45_ (0 : Int32)).bind fun S48_ =>
            (fnX2_ownerOf n S48_ x8_).bind fun x52_ =>
            rv_lt (x52_ + (1 : Int32)) fun x54_ =>
            rv_lt (x4 + (-1)) fun x56_ =>
            rv_lt (x6 + (1)) fun x58_ =>
            cX2_goesForEver_29 n k S48_ a0 a1 x56_ x54_ x58_)
          else (
            (fnX2_after n S a1 x8_ x13_).bind fun x17_ =>
            (rv_gR S 1 a0 1).bind fun a19_ =>
            (rv_ck S 1 a0).bind fun u21_ =>
            (fnX2_codeOf n S a0 x17_).bind fun x24_ =>
            (fnX2_isIn n S a19_ x24_).bind fun x27_ =>
            if x27_ = 0 then (
              (rv_ck S 1 a0).bind fun u30_ =>
              (fnX2_enter n S a0 x17_ x4).bind fun S33_ =>
              rv_lt (x4 + (1)) fun x36_ =>
              rv_lt (x6 + (1)) fun x38_ =>
              cX2_goesForEver_29 n k S33_ a0 a1 x36_ (0 : Int32) x38_)
            else (
              some ((1 : Int32), S))))))
set_option maxRecDepth 20000 in
set_option maxHeartbeats 4000000 in
theorem eX2_goesForEver_29 (n : Nat) : ∀ (k : Nat) (S : rvS) (a0 : Nat) (a1 : Nat) (x4 : Int32) (x5 : Int32) (x6 : Int32) (r : Int32) (S' : rvS), cX2_goesForEver_29 n k S a0 a1 x4 x5 x6 = some (r, S') → rv_Ev mX2_goesForEver 4 29 [(0, .ref a0), (1, .ref a1), (4, .int x4), (5, .int x5), (6, .int x6)] [] S (some (.int r)) S' := by
  intro k
  induction k with
  | zero => intro S a0 a1 x4 x5 x6 r S' h; exact absurd h (by simp [cX2_goesForEver_29])
  | succ k ih =>
    intro S a0 a1 x4 x5 x6 r S' h
    unfold cX2_goesForEver_29 at h
    refine re_iload (pc := 29) 4 (by decide +kernel : decode cX2_goesForEver 29 = .ok (.iload 6, 2)) rfl ?_
    refine re_ldc (pc := 31) (v := 1064960) (rw5 132 (by decide +kernel) rfl) (by decide +kernel : decode cX2_goesForEver 31 = .ok (.ldc 161, 2)) ?_
    rcases rv_if_e h with ⟨g1_, h⟩ | ⟨g1_, h⟩
    · refine re_icmp_ge_t (pc := 33) 157 (by decide +kernel : decode cX2_goesForEver 33 = .ok (.if_icmp .ge 124, 3)) (by decide) g1_ ?_
      refine re_iconst (pc := 157) (0 : Int32) (by decide +kernel : decode cX2_goesForEver 157 = .ok (.iconst 0, 1)) (by decide) ?_
      cases h
      exact re_iret (fun ty hty => by cases hty; rfl) (by decide +kernel : decode cX2_goesForEver 158 = .ok (.ireturn, 1))
    · refine re_icmp_ge_f (pc := 33) 157 (by decide +kernel : decode cX2_goesForEver 33 = .ok (.if_icmp .ge 124, 3)) (by decide) g1_ ?_
      refine re_iload (pc := 36) 2 (by decide +kernel : decode cX2_goesForEver 36 = .ok (.iload 4, 2)) rfl ?_
      rcases rv_if_e h with ⟨g2_, h⟩ | ⟨g2_, h⟩
      · refine re_if_le_t (pc := 38) 157 (by decide +kernel : decode cX2_goesForEver 38 = .ok (.ifCond .le 119, 3)) (by decide) g2_ ?_
        refine re_iconst (pc := 157) (0 : Int32) (by decide +kernel : decode cX2_goesForEver 157 = .ok (.iconst 0, 1)) (by decide) ?_
        cases h
        exact re_iret (fun ty hty => by cases hty; rfl) (by decide +kernel : decode cX2_goesForEver 158 = .ok (.ireturn, 1))
      · refine re_if_le_f (pc := 38) 157 (by decide +kernel : decode cX2_goesForEver 38 = .ok (.ifCond .le 119, 3)) (by decide) g2_ ?_
        refine re_iload (pc := 41) 2 (by decide +kernel : decode cX2_goesForEver 41 = .ok (.iload 4, 2)) rfl ?_
        refine re_ldc (pc := 43) (v := 266240) (rw2 53 (by decide +kernel) rfl) (by decide +kernel : decode cX2_goesForEver 43 = .ok (.ldc 22, 2)) ?_
        rcases rv_if_e h with ⟨g3_, h⟩ | ⟨g3_, h⟩
        · refine re_icmp_ge_t (pc := 45) 157 (by decide +kernel : decode cX2_goesForEver 45 = .ok (.if_icmp .ge 112, 3)) (by decide) g3_ ?_
          refine re_iconst (pc := 157) (0 : Int32) (by decide +kernel : decode cX2_goesForEver 157 = .ok (.iconst 0, 1)) (by decide) ?_
          cases h
          exact re_iret (fun ty hty => by cases hty; rfl) (by decide +kernel : decode cX2_goesForEver 158 = .ok (.ireturn, 1))
        · refine re_icmp_ge_f (pc := 45) 157 (by decide +kernel : decode cX2_goesForEver 45 = .ok (.if_icmp .ge 112, 3)) (by decide) g3_ ?_
          refine re_aloadn (pc := 48) 0 (by decide +kernel : decode cX2_goesForEver 48 = .ok (.aload_n 0, 1)) rfl ?_
          obtain ⟨a4_, g5_, h⟩ := rv_b_e h
          refine re_gR (pc := 49) g5_ lfX2_23 rfl (by decide +kernel : decode cX2_goesForEver 49 = .ok (.getfield 23, 3)) ?_
          refine re_iload (pc := 52) 2 (by decide +kernel : decode cX2_goesForEver 52 = .ok (.iload 4, 2)) rfl ?_
          refine re_iconst (pc := 54) (1 : Int32) (by decide +kernel : decode cX2_goesForEver 54 = .ok (.iconst 1, 1)) (by decide) ?_
          refine re_isub (pc := 55) (by decide +kernel : decode cX2_goesForEver 55 = .ok (.isub, 1)) ?_
          obtain ⟨x6_, g7_, h⟩ := rv_b_e h
          refine re_aL (pc := 56) g7_ (by decide +kernel : decode cX2_goesForEver 56 = .ok (.laload, 1)) ?_
          refine re_l2i (pc := 57) (by decide +kernel : decode cX2_goesForEver 57 = .ok (.l2i, 1)) ?_
          refine re_ldc (pc := 58) (v := 1048575) (rw5 21 (by decide +kernel) rfl) (by decide +kernel : decode cX2_goesForEver 58 = .ok (.ldc 36, 2)) ?_
          refine re_iand (pc := 60) (by decide +kernel : decode cX2_goesForEver 60 = .ok (.iand, 1)) ?_
          obtain ⟨x8_, g9_, h⟩ := rv_lt_e h
          refine re_nI (pc := 61) g9_ ?_
          refine re_istore (pc := 61) (lv1 := [(7, .int x8_), (0, .ref a0), (1, .ref a1), (4, .int x4), (5, .int x5), (6, .int x6)]) (by decide +kernel : decode cX2_goesForEver 61 = .ok (.istore 7, 2)) (by decide) rfl ?_
          refine re_aloadn (pc := 63) 1 (by decide +kernel : decode cX2_goesForEver 63 = .ok (.aload_n 0, 1)) rfl ?_
          refine re_aloadn (pc := 64) 2 (by decide +kernel : decode cX2_goesForEver 64 = .ok (.aload_n 1, 1)) rfl ?_
          refine re_iload (pc := 65) 0 (by decide +kernel : decode cX2_goesForEver 65 = .ok (.iload 7, 2)) rfl ?_
          refine re_iload (pc := 67) 4 (by decide +kernel : decode cX2_goesForEver 67 = .ok (.iload 5, 2)) rfl ?_
          obtain ⟨u10_, g11_, h⟩ := rv_b_e h
          obtain ⟨x13_, g14_, h⟩ := rv_b_e h
          have m12_ := metX2_nextHand n S a0 a1 x8_ x5 _ g14_
          refine re_cV (pc := 69) [.ref a1, .int x8_, .int x5] m12_ (rv_okl.k ⟨rfl, rfl⟩) (rv_up.rf _ _) (by decide) (rv_ck_e g11_) ⟨by decide, rfl⟩ (Nat.le_of_ble_eq_true rfl) lVX2_162 rfl (by decide +kernel : decode cX2_goesForEver 69 = .ok (.invokevirtual 162, 3)) ?_
          refine re_istore (pc := 72) (lv1 := [(8, .int x13_), (7, .int x8_), (0, .ref a0), (1, .ref a1), (4, .int x4), (5, .int x5), (6, .int x6)]) (by decide +kernel : decode cX2_goesForEver 72 = .ok (.istore 8, 2)) (by decide) rfl ?_
          refine re_iload (pc := 74) 0 (by decide +kernel : decode cX2_goesForEver 74 = .ok (.iload 8, 2)) rfl ?_
          refine re_iconst (pc := 76) (-1 : Int32) (by decide +kernel : decode cX2_goesForEver 76 = .ok (.iconst (-1), 1)) (by decide) ?_
          rcases rv_if_e h with ⟨g15_, h⟩ | ⟨g15_, h⟩
          · refine re_icmp_ne_f (pc := 77) 109 (by decide +kernel : decode cX2_goesForEver 77 = .ok (.if_icmp .ne 32, 3)) (by decide) g15_ ?_
            refine re_aloadn (pc := 80) 2 (by decide +kernel : decode cX2_goesForEver 80 = .ok (.aload_n 0, 1)) rfl ?_
            obtain ⟨a40_, g41_, h⟩ := rv_b_e h
            refine re_gR (pc := 81) g41_ lfX2_19 rfl (by decide +kernel : decode cX2_goesForEver 81 = .ok (.getfield 19, 3)) ?_
            refine re_aloadn (pc := 84) 2 (by decide +kernel : decode cX2_goesForEver 84 = .ok (.aload_n 0, 1)) rfl ?_
            refine re_iload (pc := 85) 1 (by decide +kernel : decode cX2_goesForEver 85 = .ok (.iload 7, 2)) rfl ?_
            obtain ⟨u42_, g43_, h⟩ := rv_b_e h
            obtain ⟨x45_, g46_, h⟩ := rv_b_e h
            have m44_ := metX2_codeOf n S a0 x8_ _ g46_
            refine re_cV (pc := 87) [.int x8_] m44_ (rv_okl.k ⟨rfl, rfl⟩) (rv_up.rf _ _) (by decide) (rv_ck_e g43_) ⟨by decide, rfl⟩ (Nat.le_of_ble_eq_true rfl) lVX2_134 rfl (by decide +kernel : decode cX2_goesForEver 87 = .ok (.invokevirtual 134, 3)) ?_
            refine re_iconst (pc := 90) (0 : Int32) (by decide +kernel : decode cX2_goesForEver 90 = .ok (.iconst 0, 1)) (by decide) ?_
            obtain ⟨S48_, g49_, h⟩ := rv_b_e h
            have m47_ := metX2_put n S a40_ x45_ (0 : Int32) _ g49_
            have z50_ : rv_same S S48_ := m47_.sh rfl
            refine re_cS (pc := 91) [.ref a40_, .int x45_, .int (0 : Int32)] m47_ (rv_okl.k z50_) (rv_up.sh z50_) (by decide) (Nat.le_of_ble_eq_true rfl) lSX2_137 rfl (by decide +kernel : decode cX2_goesForEver 91 = .ok (.invokestatic 137, 3)) ?_
            refine re_iload (pc := 94) 1 (by decide +kernel : decode cX2_goesForEver 94 = .ok (.iload 7, 2)) rfl ?_
            obtain ⟨x52_, g53_, h⟩ := rv_b_e h
            have m51_ := metX2_ownerOf n S48_ x8_ _ g53_
            refine re_cS (pc := 96) [.int x8_] m51_ (rv_okl.k ⟨rfl, rfl⟩) (rv_up.rf _ _) (by decide) (Nat.le_of_ble_eq_true rfl) lSX2_57 rfl (by decide +kernel : decode cX2_goesForEver 96 = .ok (.invokestatic 57, 3)) ?_
            refine re_iconst (pc := 99) (1 : Int32) (by decide +kernel : decode cX2_goesForEver 99 = .ok (.iconst 1, 1)) (by decide) ?_
            refine re_iadd (pc := 100) (by decide +kernel : decode cX2_goesForEver 100 = .ok (.iadd, 1)) ?_
            obtain ⟨x54_, g55_, h⟩ := rv_lt_e h
            refine re_nI (pc := 101) g55_ ?_
            refine re_istore (pc := 101) (lv1 := [(5, .int x54_), (8, .int x13_), (7, .int x8_), (0, .ref a0), (1, .ref a1), (4, .int x4), (6, .int x6)]) (by decide +kernel : decode cX2_goesForEver 101 = .ok (.istore 5, 2)) (by decide) rfl ?_
            obtain ⟨x56_, g57_, h⟩ := rv_lt_e h
            refine re_iinc (pc := 103) 5 x56_ (lv1 := [(4, .int x56_), (5, .int x54_), (8, .int x13_), (7, .int x8_), (0, .ref a0), (1, .ref a1), (6, .int x6)]) (by decide +kernel : decode cX2_goesForEver 103 = .ok (.iinc 4 (-1), 3)) rfl g57_ (by decide) rfl ?_
            refine re_goto (pc := 106) 151 (by decide +kernel : decode cX2_goesForEver 106 = .ok (.goto 45, 3)) (by decide) ?_
            obtain ⟨x58_, g59_, h⟩ := rv_lt_e h
            refine re_iinc (pc := 151) 6 x58_ (lv1 := [(6, .int x58_), (4, .int x56_), (5, .int x54_), (8, .int x13_), (7, .int x8_), (0, .ref a0), (1, .ref a1)]) (by decide +kernel : decode cX2_goesForEver 151 = .ok (.iinc 6 1, 3)) rfl g59_ (by decide) rfl ?_
            refine re_goto (pc := 154) 29 (by decide +kernel : decode cX2_goesForEver 154 = .ok (.goto (-125), 3)) (by decide) ?_
            refine re_sub [5, 6, 1, 2, 0] (lv1 := [(0, .ref a0), (1, .ref a1), (4, .int x56_), (5, .int x54_), (6, .int x58_)]) rfl ?_
            exact ih S48_ a0 a1 x56_ x54_ x58_ _ _ h
          · refine re_icmp_ne_t (pc := 77) 109 (by decide +kernel : decode cX2_goesForEver 77 = .ok (.if_icmp .ne 32, 3)) (by decide) g15_ ?_
            refine re_aloadn (pc := 109) 3 (by decide +kernel : decode cX2_goesForEver 109 = .ok (.aload_n 1, 1)) rfl ?_
            refine re_iload (pc := 110) 1 (by decide +kernel : decode cX2_goesForEver 110 = .ok (.iload 7, 2)) rfl ?_
            refine re_iload (pc := 112) 0 (by decide +kernel : decode cX2_goesForEver 112 = .ok (.iload 8, 2)) rfl ?_
            obtain ⟨x17_, g18_, h⟩ := rv_b_e h
            have m16_ := metX2_after n S a1 x8_ x13_ _ g18_
            refine re_cS (pc := 114) [.ref a1, .int x8_, .int x13_] m16_ (rv_okl.k ⟨rfl, rfl⟩) (rv_up.rf _ _) (by decide) (Nat.le_of_ble_eq_true rfl) lSX2_144 rfl (by decide +kernel : decode cX2_goesForEver 114 = .ok (.invokestatic 144, 3)) ?_
            refine re_istore (pc := 117) (lv1 := [(9, .int x17_), (8, .int x13_), (7, .int x8_), (0, .ref a0), (1, .ref a1), (4, .int x4), (5, .int x5), (6, .int x6)]) (by decide +kernel : decode cX2_goesForEver 117 = .ok (.istore 9, 2)) (by decide) rfl ?_
            refine re_aloadn (pc := 119) 3 (by decide +kernel : decode cX2_goesForEver 119 = .ok (.aload_n 0, 1)) rfl ?_
            obtain ⟨a19_, g20_, h⟩ := rv_b_e h
            refine re_gR (pc := 120) g20_ lfX2_19 rfl (by decide +kernel : decode cX2_goesForEver 120 = .ok (.getfield 19, 3)) ?_
            refine re_aloadn (pc := 123) 3 (by decide +kernel : decode cX2_goesForEver 123 = .ok (.aload_n 0, 1)) rfl ?_
            refine re_iload (pc := 124) 0 (by decide +kernel : decode cX2_goesForEver 124 = .ok (.iload 9, 2)) rfl ?_
            obtain ⟨u21_, g22_, h⟩ := rv_b_e h
            obtain ⟨x24_, g25_, h⟩ := rv_b_e h
            have m23_ := metX2_codeOf n S a0 x17_ _ g25_
            refine re_cV (pc := 126) [.int x17_] m23_ (rv_okl.k ⟨rfl, rfl⟩) (rv_up.rf _ _) (by decide) (rv_ck_e g22_) ⟨by decide, rfl⟩ (Nat.le_of_ble_eq_true rfl) lVX2_134 rfl (by decide +kernel : decode cX2_goesForEver 126 = .ok (.invokevirtual 134, 3)) ?_
            obtain ⟨x27_, g28_, h⟩ := rv_b_e h
            have m26_ := metX2_isIn n S a19_ x24_ _ g28_
            refine re_cS (pc := 129) [.ref a19_, .int x24_] m26_ (rv_okl.k ⟨rfl, rfl⟩) (rv_up.rf _ _) (by decide) (Nat.le_of_ble_eq_true rfl) lSX2_151 rfl (by decide +kernel : decode cX2_goesForEver 129 = .ok (.invokestatic 151, 3)) ?_
            rcases rv_if_e h with ⟨g29_, h⟩ | ⟨g29_, h⟩
            · refine re_if_eq_t (pc := 132) 137 (by decide +kernel : decode cX2_goesForEver 132 = .ok (.ifCond .eq 5, 3)) (by decide) g29_ ?_
              refine re_aloadn (pc := 137) 3 (by decide +kernel : decode cX2_goesForEver 137 = .ok (.aload_n 0, 1)) rfl ?_
              refine re_iload (pc := 138) 0 (by decide +kernel : decode cX2_goesForEver 138 = .ok (.iload 9, 2)) rfl ?_
              refine re_iload (pc := 140) 5 (by decide +kernel : decode cX2_goesForEver 140 = .ok (.iload 4, 2)) rfl ?_
              obtain ⟨u30_, g31_, h⟩ := rv_b_e h
              obtain ⟨S33_, g34_, h⟩ := rv_b_e h
              have m32_ := metX2_enter n S a0 x17_ x4 _ g34_
              have z35_ : rv_same S S33_ := m32_.sh rfl
              refine re_cV (pc := 142) [.int x17_, .int x4] m32_ (rv_okl.k z35_) (rv_up.sh z35_) (by decide) (rv_ck_e g31_) ⟨by decide, rfl⟩ (Nat.le_of_ble_eq_true rfl) lVX2_158 rfl (by decide +kernel : decode cX2_goesForEver 142 = .ok (.invokevirtual 158, 3)) ?_
              refine re_iconst (pc := 145) (0 : Int32) (by decide +kernel : decode cX2_goesForEver 145 = .ok (.iconst 0, 1)) (by decide) ?_
              refine re_istore (pc := 146) (lv1 := [(5, .int (0 : Int32)), (9, .int x17_), (8, .int x13_), (7, .int x8_), (0, .ref a0), (1, .ref a1), (4, .int x4), (6, .int x6)]) (by decide +kernel : decode cX2_goesForEver 146 = .ok (.istore 5, 2)) (by decide) rfl ?_
              obtain ⟨x36_, g37_, h⟩ := rv_lt_e h
              refine re_iinc (pc := 148) 6 x36_ (lv1 := [(4, .int x36_), (5, .int (0 : Int32)), (9, .int x17_), (8, .int x13_), (7, .int x8_), (0, .ref a0), (1, .ref a1), (6, .int x6)]) (by decide +kernel : decode cX2_goesForEver 148 = .ok (.iinc 4 1, 3)) rfl g37_ (by decide) rfl ?_
              obtain ⟨x38_, g39_, h⟩ := rv_lt_e h
              refine re_iinc (pc := 151) 7 x38_ (lv1 := [(6, .int x38_), (4, .int x36_), (5, .int (0 : Int32)), (9, .int x17_), (8, .int x13_), (7, .int x8_), (0, .ref a0), (1, .ref a1)]) (by decide +kernel : decode cX2_goesForEver 151 = .ok (.iinc 6 1, 3)) rfl g39_ (by decide) rfl ?_
              refine re_goto (pc := 154) 29 (by decide +kernel : decode cX2_goesForEver 154 = .ok (.goto (-125), 3)) (by decide) ?_
              refine re_sub [6, 7, 1, 2, 0] (lv1 := [(0, .ref a0), (1, .ref a1), (4, .int x36_), (5, .int (0 : Int32)), (6, .int x38_)]) rfl ?_
              exact ih S33_ a0 a1 x36_ (0 : Int32) x38_ _ _ h
            · refine re_if_eq_f (pc := 132) 137 (by decide +kernel : decode cX2_goesForEver 132 = .ok (.ifCond .eq 5, 3)) (by decide) g29_ ?_
              refine re_iconst (pc := 135) (1 : Int32) (by decide +kernel : decode cX2_goesForEver 135 = .ok (.iconst 1, 1)) (by decide) ?_
              cases h
              exact re_iret (fun ty hty => by cases hty; rfl) (by decide +kernel : decode cX2_goesForEver 136 = .ok (.ireturn, 1))
noncomputable def fnX2_goesForEver (n : Nat) (S : rvS) (a0 : Nat) (a1 : Nat) (x2 : Int32) : Option (Int32 × rvS) :=
  (rv_ck S 1 a0).bind fun u1_ =>
  (fnX2_begin n S a0 a1).bind fun S4_ =>
  (rv_gR S4_ 8 a1 1).bind fun a7_ =>
  (fnX2_stateNow n S4_ a7_ x2).bind fun x10_ =>
  (rv_ck S4_ 1 a0).bind fun u12_ =>
  (fnX2_enter n S4_ a0 x10_ (0 : Int32)).bind fun S15_ =>
  cX2_goesForEver_29 n n S15_ a0 a1 (1 : Int32) (0 : Int32) (0 : Int32)
set_option maxRecDepth 20000 in
set_option maxHeartbeats 4000000 in
theorem eX2_goesForEver_in (n : Nat) (S : rvS) (a0 : Nat) (a1 : Nat) (x2 : Int32) (r : Int32) (S' : rvS) (h : fnX2_goesForEver n S a0 a1 x2 = some (r, S')) : rv_Ev mX2_goesForEver 4 0 [(0, .ref a0), (1, .ref a1), (2, .int x2)] [] S (some (.int r)) S' := by
  unfold fnX2_goesForEver at h
  refine re_aloadn (pc := 0) 0 (by decide +kernel : decode cX2_goesForEver 0 = .ok (.aload_n 0, 1)) rfl ?_
  refine re_aloadn (pc := 1) 1 (by decide +kernel : decode cX2_goesForEver 1 = .ok (.aload_n 1, 1)) rfl ?_
  obtain ⟨u1_, g2_, h⟩ := rv_b_e h
  obtain ⟨S4_, g5_, h⟩ := rv_b_e h
  have m3_ := metX2_begin n S a0 a1 _ g5_
  have z6_ : rv_same S S4_ := m3_.sh rfl
  refine re_cV (pc := 2) [.ref a1] m3_ (rv_okl.k z6_) (rv_up.sh z6_) (by decide) (rv_ck_e g2_) ⟨by decide, rfl⟩ (Nat.le_of_ble_eq_true rfl) lVX2_130 rfl (by decide +kernel : decode cX2_goesForEver 2 = .ok (.invokevirtual 130, 3)) ?_
  refine re_aloadn (pc := 5) 1 (by decide +kernel : decode cX2_goesForEver 5 = .ok (.aload_n 1, 1)) rfl ?_
  obtain ⟨a7_, g8_, h⟩ := rv_b_e h
  refine re_gR (pc := 6) g8_ lfX2_67 rfl (by decide +kernel : decode cX2_goesForEver 6 = .ok (.getfield 67, 3)) ?_
  refine re_iloadn (pc := 9) 2 (by decide +kernel : decode cX2_goesForEver 9 = .ok (.iload_n 2, 1)) rfl ?_
  obtain ⟨x10_, g11_, h⟩ := rv_b_e h
  have m9_ := metX2_stateNow n S4_ a7_ x2 _ g11_
  refine re_cS (pc := 10) [.ref a7_, .int x2] m9_ (rv_okl.k ⟨rfl, rfl⟩) (rv_up.rf _ _) (by decide) (Nat.le_of_ble_eq_true rfl) lSX2_83 rfl (by decide +kernel : decode cX2_goesForEver 10 = .ok (.invokestatic 83, 3)) ?_
  refine re_istoren (pc := 13) (lv1 := [(3, .int x10_), (0, .ref a0), (1, .ref a1), (2, .int x2)]) (by decide +kernel : decode cX2_goesForEver 13 = .ok (.istore_n 3, 1)) rfl (by decide) rfl ?_
  refine re_aloadn (pc := 14) 1 (by decide +kernel : decode cX2_goesForEver 14 = .ok (.aload_n 0, 1)) rfl ?_
  refine re_iloadn (pc := 15) 0 (by decide +kernel : decode cX2_goesForEver 15 = .ok (.iload_n 3, 1)) rfl ?_
  refine re_iconst (pc := 16) (0 : Int32) (by decide +kernel : decode cX2_goesForEver 16 = .ok (.iconst 0, 1)) (by decide) ?_
  obtain ⟨u12_, g13_, h⟩ := rv_b_e h
  obtain ⟨S15_, g16_, h⟩ := rv_b_e h
  have m14_ := metX2_enter n S4_ a0 x10_ (0 : Int32) _ g16_
  have z17_ : rv_same S4_ S15_ := m14_.sh rfl
  refine re_cV (pc := 17) [.int x10_, .int (0 : Int32)] m14_ (rv_okl.k z17_) (rv_up.sh z17_) (by decide) (rv_ck_e g13_) ⟨by decide, rfl⟩ (Nat.le_of_ble_eq_true rfl) lVX2_158 rfl (by decide +kernel : decode cX2_goesForEver 17 = .ok (.invokevirtual 158, 3)) ?_
  refine re_iconst (pc := 20) (1 : Int32) (by decide +kernel : decode cX2_goesForEver 20 = .ok (.iconst 1, 1)) (by decide) ?_
  refine re_istore (pc := 21) (lv1 := [(4, .int (1 : Int32)), (3, .int x10_), (0, .ref a0), (1, .ref a1), (2, .int x2)]) (by decide +kernel : decode cX2_goesForEver 21 = .ok (.istore 4, 2)) (by decide) rfl ?_
  refine re_iconst (pc := 23) (0 : Int32) (by decide +kernel : decode cX2_goesForEver 23 = .ok (.iconst 0, 1)) (by decide) ?_
  refine re_istore (pc := 24) (lv1 := [(5, .int (0 : Int32)), (4, .int (1 : Int32)), (3, .int x10_), (0, .ref a0), (1, .ref a1), (2, .int x2)]) (by decide +kernel : decode cX2_goesForEver 24 = .ok (.istore 5, 2)) (by decide) rfl ?_
  refine re_iconst (pc := 26) (0 : Int32) (by decide +kernel : decode cX2_goesForEver 26 = .ok (.iconst 0, 1)) (by decide) ?_
  refine re_istore (pc := 27) (lv1 := [(6, .int (0 : Int32)), (5, .int (0 : Int32)), (4, .int (1 : Int32)), (3, .int x10_), (0, .ref a0), (1, .ref a1), (2, .int x2)]) (by decide +kernel : decode cX2_goesForEver 27 = .ok (.istore 6, 2)) (by decide) rfl ?_
  refine re_sub [4, 5, 2, 1, 0] (lv1 := [(0, .ref a0), (1, .ref a1), (4, .int (1 : Int32)), (5, .int (0 : Int32)), (6, .int (0 : Int32))]) rfl ?_
  exact eX2_goesForEver_29 n n S15_ a0 a1 (1 : Int32) (0 : Int32) (0 : Int32) _ _ h
theorem metX2_goesForEver (n : Nat) (S : rvS) (a0 : Nat) (a1 : Nat) (x2 : Int32) (r : Int32) (S' : rvS) (h : fnX2_goesForEver n S a0 a1 x2 = some (r, S')) : rv_Met yX2_goesForEver mX2_goesForEver 4 [.ref a0, .ref a1, .int x2] S (some (.int r)) S' := rv_Met.of ⟨by decide +kernel, rfl, (fun z => by first | rfl | cases z), rfl⟩ (Nat.le_of_ble_eq_true rfl) rfl (eX2_goesForEver_in n S a0 a1 x2 r S' h)
noncomputable def fbX2_walkBy (n : Nat) (G0 : rvS → Nat → Nat → Int32 → Int32 → Int32 → Int32 → Option (Int32 × rvS)) (G1 : rvS → Nat → Nat → Int32 → Int32 → Int32 → Option (Int32 × rvS)) (S : rvS) (a0 : Nat) (a1 : Nat) (x2 : Int32) (x3 : Int32) (x4 : Int32) (x5 : Int32) : Option (Int32 × rvS) :=
  (fnX2_after n S a1 x2 x3).bind fun x2_ =>
  (rv_ck S 1 a0).bind fun u4_ =>
  rv_bp (G1 S a0 a1 x2_ (x4 + (1 : Int32)) x5) fun x7_ S8_ =>
  some (x7_, S8_)
set_option maxRecDepth 20000 in
set_option maxHeartbeats 4000000 in
theorem eX2_walkBy_in (n : Nat) (G0 : rvS → Nat → Nat → Int32 → Int32 → Int32 → Int32 → Option (Int32 × rvS)) (G1 : rvS → Nat → Nat → Int32 → Int32 → Int32 → Option (Int32 × rvS)) (d : Nat) (hG0 : ∀ (S : rvS) (z0 : Nat) (z1 : Nat) (z2 : Int32) (z3 : Int32) (z4 : Int32) (z5 : Int32) (r : Int32) (S' : rvS), G0 S z0 z1 z2 z3 z4 z5 = some (r, S') → rv_Met yX2_walkBy mX2_walkBy (3 + d) [.ref z0, .ref z1, .int z2, .int z3, .int z4, .int z5] S (some (.int r)) S') (hG1 : ∀ (S : rvS) (z0 : Nat) (z1 : Nat) (z2 : Int32) (z3 : Int32) (z4 : Int32) (r : Int32) (S' : rvS), G1 S z0 z1 z2 z3 z4 = some (r, S') → rv_Met yX2_walk mX2_walk (3 + d) [.ref z0, .ref z1, .int z2, .int z3, .int z4] S (some (.int r)) S') (S : rvS) (a0 : Nat) (a1 : Nat) (x2 : Int32) (x3 : Int32) (x4 : Int32) (x5 : Int32) (r : Int32) (S' : rvS) (h : fbX2_walkBy n G0 G1 S a0 a1 x2 x3 x4 x5 = some (r, S')) : rv_Ev mX2_walkBy (3 + d + 1) 0 [(0, .ref a0), (1, .ref a1), (2, .int x2), (3, .int x3), (4, .int x4), (5, .int x5)] [] S (some (.int r)) S' := by
  unfold fbX2_walkBy at h
  refine re_aloadn (pc := 0) 0 (by decide +kernel : decode cX2_walkBy 0 = .ok (.aload_n 0, 1)) rfl ?_
  refine re_aloadn (pc := 1) 1 (by decide +kernel : decode cX2_walkBy 1 = .ok (.aload_n 1, 1)) rfl ?_
  refine re_aloadn (pc := 2) 1 (by decide +kernel : decode cX2_walkBy 2 = .ok (.aload_n 1, 1)) rfl ?_
  refine re_iloadn (pc := 3) 2 (by decide +kernel : decode cX2_walkBy 3 = .ok (.iload_n 2, 1)) rfl ?_
  refine re_iloadn (pc := 4) 3 (by decide +kernel : decode cX2_walkBy 4 = .ok (.iload_n 3, 1)) rfl ?_
  obtain ⟨x2_, g3_, h⟩ := rv_b_e h
  have m1_ := metX2_after n S a1 x2 x3 _ g3_
  refine re_cS (pc := 5) [.ref a1, .int x2, .int x3] m1_ (rv_okl.k ⟨rfl, rfl⟩) (rv_up.rf _ _) (by omega) (Nat.le_of_ble_eq_true rfl) lSX2_144 rfl (by decide +kernel : decode cX2_walkBy 5 = .ok (.invokestatic 144, 3)) ?_
  refine re_iload (pc := 8) 4 (by decide +kernel : decode cX2_walkBy 8 = .ok (.iload 4, 2)) rfl ?_
  refine re_iconst (pc := 10) (1 : Int32) (by decide +kernel : decode cX2_walkBy 10 = .ok (.iconst 1, 1)) (by decide) ?_
  refine re_iadd (pc := 11) (by decide +kernel : decode cX2_walkBy 11 = .ok (.iadd, 1)) ?_
  refine re_iload (pc := 12) 5 (by decide +kernel : decode cX2_walkBy 12 = .ok (.iload 5, 2)) rfl ?_
  obtain ⟨u4_, g5_, h⟩ := rv_b_e h
  obtain ⟨x7_, S8_, g9_, h⟩ := rv_bp_e h
  have m6_ := hG1 S a0 a1 x2_ (x4 + (1 : Int32)) x5 _ _ g9_
  have z10_ : rv_same S S8_ := m6_.sh rfl
  refine re_cV (pc := 14) [.ref a1, .int x2_, .int (x4 + (1 : Int32)), .int x5] m6_ (rv_okl.k z10_) (rv_up.sh z10_) (by omega) (rv_ck_e g5_) ⟨by decide, rfl⟩ (Nat.le_of_ble_eq_true rfl) lVX2_173 rfl (by decide +kernel : decode cX2_walkBy 14 = .ok (.invokevirtual 173, 3)) ?_
  cases h
  exact re_iret (fun ty hty => by cases hty; rfl) (by decide +kernel : decode cX2_walkBy 17 = .ok (.ireturn, 1))
noncomputable def cX2_walk_13 (n : Nat) (G0 : rvS → Nat → Nat → Int32 → Int32 → Int32 → Int32 → Option (Int32 × rvS)) (G1 : rvS → Nat → Nat → Int32 → Int32 → Int32 → Option (Int32 × rvS)) (S : rvS) (x2 : Int32) (x4 : Int32) : Option (Int32 × rvS) :=
  if x2 = x4 then (
    some ((1 : Int32), S))
  else (
    some ((0 : Int32), S))
set_option maxRecDepth 20000 in
set_option maxHeartbeats 4000000 in
theorem eX2_walk_13 (n : Nat) (G0 : rvS → Nat → Nat → Int32 → Int32 → Int32 → Int32 → Option (Int32 × rvS)) (G1 : rvS → Nat → Nat → Int32 → Int32 → Int32 → Option (Int32 × rvS)) (d : Nat) (hG0 : ∀ (S : rvS) (z0 : Nat) (z1 : Nat) (z2 : Int32) (z3 : Int32) (z4 : Int32) (z5 : Int32) (r : Int32) (S' : rvS), G0 S z0 z1 z2 z3 z4 z5 = some (r, S') → rv_Met yX2_walkBy mX2_walkBy (3 + d) [.ref z0, .ref z1, .int z2, .int z3, .int z4, .int z5] S (some (.int r)) S') (hG1 : ∀ (S : rvS) (z0 : Nat) (z1 : Nat) (z2 : Int32) (z3 : Int32) (z4 : Int32) (r : Int32) (S' : rvS), G1 S z0 z1 z2 z3 z4 = some (r, S') → rv_Met yX2_walk mX2_walk (3 + d) [.ref z0, .ref z1, .int z2, .int z3, .int z4] S (some (.int r)) S') (S : rvS) (x2 : Int32) (x4 : Int32) (r : Int32) (S' : rvS) (h : cX2_walk_13 n G0 G1 S x2 x4 = some (r, S')) : rv_Ev mX2_walk (3 + d + 1) 13 [(2, .int x2), (4, .int x4)] [] S (some (.int r)) S' := by
  unfold cX2_walk_13 at h
  refine re_iloadn (pc := 13) 0 (by decide +kernel : decode cX2_walk 13 = .ok (.iload_n 2, 1)) rfl ?_
  refine re_iload (pc := 14) 1 (by decide +kernel : decode cX2_walk 14 = .ok (.iload 4, 2)) rfl ?_
  rcases rv_if_e h with ⟨g1_, h⟩ | ⟨g1_, h⟩
  · refine re_icmp_ne_f (pc := 16) 23 (by decide +kernel : decode cX2_walk 16 = .ok (.if_icmp .ne 7, 3)) (by decide) g1_ ?_
    refine re_iconst (pc := 19) (1 : Int32) (by decide +kernel : decode cX2_walk 19 = .ok (.iconst 1, 1)) (by decide) ?_
    refine re_goto (pc := 20) 24 (by decide +kernel : decode cX2_walk 20 = .ok (.goto 4, 3)) (by decide) ?_
    cases h
    exact re_iret (fun ty hty => by cases hty; rfl) (by decide +kernel : decode cX2_walk 24 = .ok (.ireturn, 1))
  · refine re_icmp_ne_t (pc := 16) 23 (by decide +kernel : decode cX2_walk 16 = .ok (.if_icmp .ne 7, 3)) (by decide) g1_ ?_
    refine re_iconst (pc := 23) (0 : Int32) (by decide +kernel : decode cX2_walk 23 = .ok (.iconst 0, 1)) (by decide) ?_
    cases h
    exact re_iret (fun ty hty => by cases hty; rfl) (by decide +kernel : decode cX2_walk 24 = .ok (.ireturn, 1))
noncomputable def cX2_walk_92 (n : Nat) (G0 : rvS → Nat → Nat → Int32 → Int32 → Int32 → Int32 → Option (Int32 × rvS)) (G1 : rvS → Nat → Nat → Int32 → Int32 → Int32 → Option (Int32 × rvS)) (K42 : Nat → Nat → Int32 → Int32 → Int32 → Int32 → Int32 → rvS → Option (Int32 × rvS)) (S : rvS) (a0 : Nat) (a1 : Nat) (x2 : Int32) (x3 : Int32) (x4 : Int32) (x5 : Int32) (x6 : Int32) : Option (Int32 × rvS) :=
  rv_lt (x6 &&& (x6 - (1 : Int32))) fun x1_ =>
  K42 a0 a1 x2 x3 x4 x5 x1_ S
set_option maxRecDepth 20000 in
set_option maxHeartbeats 4000000 in
theorem eX2_walk_92 (n : Nat) (G0 : rvS → Nat → Nat → Int32 → Int32 → Int32 → Int32 → Option (Int32 × rvS)) (G1 : rvS → Nat → Nat → Int32 → Int32 → Int32 → Option (Int32 × rvS)) (d : Nat) (hG0 : ∀ (S : rvS) (z0 : Nat) (z1 : Nat) (z2 : Int32) (z3 : Int32) (z4 : Int32) (z5 : Int32) (r : Int32) (S' : rvS), G0 S z0 z1 z2 z3 z4 z5 = some (r, S') → rv_Met yX2_walkBy mX2_walkBy (3 + d) [.ref z0, .ref z1, .int z2, .int z3, .int z4, .int z5] S (some (.int r)) S') (hG1 : ∀ (S : rvS) (z0 : Nat) (z1 : Nat) (z2 : Int32) (z3 : Int32) (z4 : Int32) (r : Int32) (S' : rvS), G1 S z0 z1 z2 z3 z4 = some (r, S') → rv_Met yX2_walk mX2_walk (3 + d) [.ref z0, .ref z1, .int z2, .int z3, .int z4] S (some (.int r)) S') (K42 : Nat → Nat → Int32 → Int32 → Int32 → Int32 → Int32 → rvS → Option (Int32 × rvS)) (hK42 : ∀ (a0 : Nat) (a1 : Nat) (x2 : Int32) (x3 : Int32) (x4 : Int32) (x5 : Int32) (x6 : Int32) (S : rvS) (r : Int32) (S' : rvS), K42 a0 a1 x2 x3 x4 x5 x6 S = some (r, S') → rv_Ev mX2_walk (3 + d + 1) 42 [(0, .ref a0), (1, .ref a1), (2, .int x2), (3, .int x3), (4, .int x4), (5, .int x5), (6, .int x6)] [] S (some (.int r)) S') (S : rvS) (a0 : Nat) (a1 : Nat) (x2 : Int32) (x3 : Int32) (x4 : Int32) (x5 : Int32) (x6 : Int32) (r : Int32) (S' : rvS) (h : cX2_walk_92 n G0 G1 K42 S a0 a1 x2 x3 x4 x5 x6 = some (r, S')) : rv_Ev mX2_walk (3 + d + 1) 92 [(0, .ref a0), (1, .ref a1), (2, .int x2), (3, .int x3), (4, .int x4), (5, .int x5), (6, .int x6)] [] S (some (.int r)) S' := by
  unfold cX2_walk_92 at h
  refine re_iload (pc := 92) 6 (by decide +kernel : decode cX2_walk 92 = .ok (.iload 6, 2)) rfl ?_
  refine re_iload (pc := 94) 6 (by decide +kernel : decode cX2_walk 94 = .ok (.iload 6, 2)) rfl ?_
  refine re_iconst (pc := 96) (1 : Int32) (by decide +kernel : decode cX2_walk 96 = .ok (.iconst 1, 1)) (by decide) ?_
  refine re_isub (pc := 97) (by decide +kernel : decode cX2_walk 97 = .ok (.isub, 1)) ?_
  refine re_iand (pc := 98) (by decide +kernel : decode cX2_walk 98 = .ok (.iand, 1)) ?_
  obtain ⟨x1_, g2_, h⟩ := rv_lt_e h
  refine re_nI (pc := 99) g2_ ?_
  refine re_istore (pc := 99) (lv1 := [(6, .int x1_), (0, .ref a0), (1, .ref a1), (2, .int x2), (3, .int x3), (4, .int x4), (5, .int x5)]) (by decide +kernel : decode cX2_walk 99 = .ok (.istore 6, 2)) (by decide) rfl ?_
  refine re_goto (pc := 101) 42 (by decide +kernel : decode cX2_walk 101 = .ok (.goto (-59), 3)) (by decide) ?_
  refine re_sub [1, 2, 3, 4, 5, 6, 0] (lv1 := [(0, .ref a0), (1, .ref a1), (2, .int x2), (3, .int x3), (4, .int x4), (5, .int x5), (6, .int x1_)]) rfl ?_
  exact hK42 a0 a1 x2 x3 x4 x5 x1_ S _ _ h
noncomputable def cX2_walk_42 (n : Nat) (G0 : rvS → Nat → Nat → Int32 → Int32 → Int32 → Int32 → Option (Int32 × rvS)) (G1 : rvS → Nat → Nat → Int32 → Int32 → Int32 → Option (Int32 × rvS)) : Nat → rvS → Nat → Nat → Int32 → Int32 → Int32 → Int32 → Int32 → Option (Int32 × rvS)
  | 0, _, _, _, _, _, _, _, _ => none
  | k + 1, S, a0, a1, x2, x3, x4, x5, x6 =>
    if x6 = 0 then (
      some (x5, S))
    else (
      (fnX12_lowest n S x6).bind fun x3_ =>
      (rv_ck S 1 a0).bind fun u5_ =>
      rv_bp (G0 S a0 a1 x2 x3_ x3 x4) fun x8_ S9_ =>
      if x8_ ≤ 0 then (
        cX2_walk_92 n G0 G1 (fun a0 a1 x2 x3 x4 x5 x6 S => cX2_walk_42 n G0 G1 k S a0 a1 x2 x3 x4 x5 x6) S9_ a0 a1 x2 x3 x4 x5 x6)
      else (
        (rv_gR S9_ 1 a0 7).bind fun a13_ =>
        (rv_aI S9_ 0 a13_ x3).bind fun x15_ =>
        (rv_uI S9_ a13_ x3 (x15_ ||| ((1 : Int32) <<< (x3_ &&& 31)))).bind fun S17_ =>
        rv_lt (x5 + x8_) fun x19_ =>
        cX2_walk_92 n G0 G1 (fun a0 a1 x2 x3 x4 x5 x6 S => cX2_walk_42 n G0 G1 k S a0 a1 x2 x3 x4 x5 x6) S17_ a0 a1 x2 x3 x4 x19_ x6))
set_option maxRecDepth 20000 in
set_option maxHeartbeats 4000000 in
theorem eX2_walk_42 (n : Nat) (G0 : rvS → Nat → Nat → Int32 → Int32 → Int32 → Int32 → Option (Int32 × rvS)) (G1 : rvS → Nat → Nat → Int32 → Int32 → Int32 → Option (Int32 × rvS)) (d : Nat) (hG0 : ∀ (S : rvS) (z0 : Nat) (z1 : Nat) (z2 : Int32) (z3 : Int32) (z4 : Int32) (z5 : Int32) (r : Int32) (S' : rvS), G0 S z0 z1 z2 z3 z4 z5 = some (r, S') → rv_Met yX2_walkBy mX2_walkBy (3 + d) [.ref z0, .ref z1, .int z2, .int z3, .int z4, .int z5] S (some (.int r)) S') (hG1 : ∀ (S : rvS) (z0 : Nat) (z1 : Nat) (z2 : Int32) (z3 : Int32) (z4 : Int32) (r : Int32) (S' : rvS), G1 S z0 z1 z2 z3 z4 = some (r, S') → rv_Met yX2_walk mX2_walk (3 + d) [.ref z0, .ref z1, .int z2, .int z3, .int z4] S (some (.int r)) S') : ∀ (k : Nat) (S : rvS) (a0 : Nat) (a1 : Nat) (x2 : Int32) (x3 : Int32) (x4 : Int32) (x5 : Int32) (x6 : Int32) (r : Int32) (S' : rvS), cX2_walk_42 n G0 G1 k S a0 a1 x2 x3 x4 x5 x6 = some (r, S') → rv_Ev mX2_walk (3 + d + 1) 42 [(0, .ref a0), (1, .ref a1), (2, .int x2), (3, .int x3), (4, .int x4), (5, .int x5), (6, .int x6)] [] S (some (.int r)) S' := by
  intro k
  induction k with
  | zero => intro S a0 a1 x2 x3 x4 x5 x6 r S' h; exact absurd h (by simp [cX2_walk_42])
  | succ k ih =>
    intro S a0 a1 x2 x3 x4 x5 x6 r S' h
    unfold cX2_walk_42 at h
    refine re_iload (pc := 42) 6 (by decide +kernel : decode cX2_walk 42 = .ok (.iload 6, 2)) rfl ?_
    rcases rv_if_e h with ⟨g1_, h⟩ | ⟨g1_, h⟩
    · refine re_if_eq_t (pc := 44) 104 (by decide +kernel : decode cX2_walk 44 = .ok (.ifCond .eq 60, 3)) (by decide) g1_ ?_
      refine re_iload (pc := 104) 5 (by decide +kernel : decode cX2_walk 104 = .ok (.iload 5, 2)) rfl ?_
      cases h
      exact re_iret (fun ty hty => by cases hty; rfl) (by decide +kernel : decode cX2_walk 106 = .ok (.ireturn, 1))
    · refine re_if_eq_f (pc := 44) 104 (by decide +kernel : decode cX2_walk 44 = .ok (.ifCond .eq 60, 3)) (by decide) g1_ ?_
      refine re_iload (pc := 47) 6 (by decide +kernel : decode cX2_walk 47 = .ok (.iload 6, 2)) rfl ?_
      obtain ⟨x3_, g4_, h⟩ := rv_b_e h
      have m2_ := metX12_lowest n S x6 _ g4_
      refine re_cS (pc := 49) [.int x6] m2_ (rv_okl.k ⟨rfl, rfl⟩) (rv_up.rf _ _) (by omega) (Nat.le_of_ble_eq_true rfl) lSX2_148 rfl (by decide +kernel : decode cX2_walk 49 = .ok (.invokestatic 148, 3)) ?_
      refine re_istore (pc := 52) (lv1 := [(7, .int x3_), (0, .ref a0), (1, .ref a1), (2, .int x2), (3, .int x3), (4, .int x4), (5, .int x5), (6, .int x6)]) (by decide +kernel : decode cX2_walk 52 = .ok (.istore 7, 2)) (by decide) rfl ?_
      refine re_aloadn (pc := 54) 1 (by decide +kernel : decode cX2_walk 54 = .ok (.aload_n 0, 1)) rfl ?_
      refine re_aloadn (pc := 55) 2 (by decide +kernel : decode cX2_walk 55 = .ok (.aload_n 1, 1)) rfl ?_
      refine re_iloadn (pc := 56) 3 (by decide +kernel : decode cX2_walk 56 = .ok (.iload_n 2, 1)) rfl ?_
      refine re_iload (pc := 57) 0 (by decide +kernel : decode cX2_walk 57 = .ok (.iload 7, 2)) rfl ?_
      refine re_iloadn (pc := 59) 4 (by decide +kernel : decode cX2_walk 59 = .ok (.iload_n 3, 1)) rfl ?_
      refine re_iload (pc := 60) 5 (by decide +kernel : decode cX2_walk 60 = .ok (.iload 4, 2)) rfl ?_
      obtain ⟨u5_, g6_, h⟩ := rv_b_e h
      obtain ⟨x8_, S9_, g10_, h⟩ := rv_bp_e h
      have m7_ := hG0 S a0 a1 x2 x3_ x3 x4 _ _ g10_
      have z11_ : rv_same S S9_ := m7_.sh rfl
      refine re_cV (pc := 62) [.ref a1, .int x2, .int x3_, .int x3, .int x4] m7_ (rv_okl.k z11_) (rv_up.sh z11_) (by omega) (rv_ck_e g6_) ⟨by decide, rfl⟩ (Nat.le_of_ble_eq_true rfl) lVX2_176 rfl (by decide +kernel : decode cX2_walk 62 = .ok (.invokevirtual 176, 3)) ?_
      refine re_istore (pc := 65) (lv1 := [(8, .int x8_), (7, .int x3_), (0, .ref a0), (1, .ref a1), (2, .int x2), (3, .int x3), (4, .int x4), (5, .int x5), (6, .int x6)]) (by decide +kernel : decode cX2_walk 65 = .ok (.istore 8, 2)) (by decide) rfl ?_
      refine re_iload (pc := 67) 0 (by decide +kernel : decode cX2_walk 67 = .ok (.iload 8, 2)) rfl ?_
      rcases rv_if_e h with ⟨g12_, h⟩ | ⟨g12_, h⟩
      · refine re_if_le_t (pc := 69) 92 (by decide +kernel : decode cX2_walk 69 = .ok (.ifCond .le 23, 3)) (by decide) g12_ ?_
        refine re_sub [2, 3, 4, 5, 6, 7, 8] (lv1 := [(0, .ref a0), (1, .ref a1), (2, .int x2), (3, .int x3), (4, .int x4), (5, .int x5), (6, .int x6)]) rfl ?_
        exact eX2_walk_92 n G0 G1 d hG0 hG1 (fun a0 a1 x2 x3 x4 x5 x6 S => cX2_walk_42 n G0 G1 k S a0 a1 x2 x3 x4 x5 x6) (fun a0 a1 x2 x3 x4 x5 x6 S _ _ h => ih S a0 a1 x2 x3 x4 x5 x6 _ _ h) S9_ a0 a1 x2 x3 x4 x5 x6 _ _ h
      · refine re_if_le_f (pc := 69) 92 (by decide +kernel : decode cX2_walk 69 = .ok (.ifCond .le 23, 3)) (by decide) g12_ ?_
        refine re_aloadn (pc := 72) 2 (by decide +kernel : decode cX2_walk 72 = .ok (.aload_n 0, 1)) rfl ?_
        obtain ⟨a13_, g14_, h⟩ := rv_b_e h
        refine re_gR (pc := 73) g14_ lfX2_33 rfl (by decide +kernel : decode cX2_walk 73 = .ok (.getfield 33, 3)) ?_
        refine re_iloadn (pc := 76) 5 (by decide +kernel : decode cX2_walk 76 = .ok (.iload_n 3, 1)) rfl ?_
        refine re_dup2 (pc := 77) (by decide +kernel : decode cX2_walk 77 = .ok (.dup2, 1)) rfl rfl ?_
        obtain ⟨x15_, g16_, h⟩ := rv_b_e h
        refine re_aI (pc := 78) g16_ (by decide +kernel : decode cX2_walk 78 = .ok (.iaload, 1)) ?_
        refine re_iconst (pc := 79) (1 : Int32) (by decide +kernel : decode cX2_walk 79 = .ok (.iconst 1, 1)) (by decide) ?_
        refine re_iload (pc := 80) 1 (by decide +kernel : decode cX2_walk 80 = .ok (.iload 7, 2)) rfl ?_
        refine re_ishl (pc := 82) (by decide +kernel : decode cX2_walk 82 = .ok (.ishl, 1)) ?_
        refine re_ior (pc := 83) (by decide +kernel : decode cX2_walk 83 = .ok (.ior, 1)) ?_
        obtain ⟨S17_, g18_, h⟩ := rv_b_e h
        refine re_uI (pc := 84) g18_ (by decide +kernel : decode cX2_walk 84 = .ok (.iastore, 1)) ?_
        refine re_iload (pc := 85) 7 (by decide +kernel : decode cX2_walk 85 = .ok (.iload 5, 2)) rfl ?_
        refine re_iload (pc := 87) 0 (by decide +kernel : decode cX2_walk 87 = .ok (.iload 8, 2)) rfl ?_
        refine re_iadd (pc := 89) (by decide +kernel : decode cX2_walk 89 = .ok (.iadd, 1)) ?_
        obtain ⟨x19_, g20_, h⟩ := rv_lt_e h
        refine re_nI (pc := 90) g20_ ?_
        refine re_istore (pc := 90) (lv1 := [(5, .int x19_), (8, .int x8_), (7, .int x3_), (0, .ref a0), (1, .ref a1), (2, .int x2), (3, .int x3), (4, .int x4), (6, .int x6)]) (by decide +kernel : decode cX2_walk 90 = .ok (.istore 5, 2)) (by decide) rfl ?_
        refine re_sub [3, 4, 5, 6, 7, 0, 8] (lv1 := [(0, .ref a0), (1, .ref a1), (2, .int x2), (3, .int x3), (4, .int x4), (5, .int x19_), (6, .int x6)]) rfl ?_
        exact eX2_walk_92 n G0 G1 d hG0 hG1 (fun a0 a1 x2 x3 x4 x5 x6 S => cX2_walk_42 n G0 G1 k S a0 a1 x2 x3 x4 x5 x6) (fun a0 a1 x2 x3 x4 x5 x6 S _ _ h => ih S a0 a1 x2 x3 x4 x5 x6 _ _ h) S17_ a0 a1 x2 x3 x4 x19_ x6 _ _ h
noncomputable def fbX2_walk (n : Nat) (G0 : rvS → Nat → Nat → Int32 → Int32 → Int32 → Int32 → Option (Int32 × rvS)) (G1 : rvS → Nat → Nat → Int32 → Int32 → Int32 → Option (Int32 × rvS)) (S : rvS) (a0 : Nat) (a1 : Nat) (x2 : Int32) (x3 : Int32) (x4 : Int32) : Option (Int32 × rvS) :=
  (rv_gI S 1 a0 8).bind fun x1_ =>
  if x1_ ≤ x3 then (
    cX2_walk_13 n G0 G1 S x2 x4)
  else (
    if x3 < (5 : Int32) then (
      (fnX2_goers n S a1 x2).bind fun x6_ =>
      (rv_gR S 1 a0 6).bind fun a8_ =>
      (rv_aI S 0 a8_ x3).bind fun x10_ =>
      rv_lt (x6_ &&& x10_) fun x12_ =>
      cX2_walk_42 n G0 G1 n S a0 a1 x2 x3 x4 (0 : Int32) x12_)
    else (
      cX2_walk_13 n G0 G1 S x2 x4))
set_option maxRecDepth 20000 in
set_option maxHeartbeats 4000000 in
theorem eX2_walk_in (n : Nat) (G0 : rvS → Nat → Nat → Int32 → Int32 → Int32 → Int32 → Option (Int32 × rvS)) (G1 : rvS → Nat → Nat → Int32 → Int32 → Int32 → Option (Int32 × rvS)) (d : Nat) (hG0 : ∀ (S : rvS) (z0 : Nat) (z1 : Nat) (z2 : Int32) (z3 : Int32) (z4 : Int32) (z5 : Int32) (r : Int32) (S' : rvS), G0 S z0 z1 z2 z3 z4 z5 = some (r, S') → rv_Met yX2_walkBy mX2_walkBy (3 + d) [.ref z0, .ref z1, .int z2, .int z3, .int z4, .int z5] S (some (.int r)) S') (hG1 : ∀ (S : rvS) (z0 : Nat) (z1 : Nat) (z2 : Int32) (z3 : Int32) (z4 : Int32) (r : Int32) (S' : rvS), G1 S z0 z1 z2 z3 z4 = some (r, S') → rv_Met yX2_walk mX2_walk (3 + d) [.ref z0, .ref z1, .int z2, .int z3, .int z4] S (some (.int r)) S') (S : rvS) (a0 : Nat) (a1 : Nat) (x2 : Int32) (x3 : Int32) (x4 : Int32) (r : Int32) (S' : rvS) (h : fbX2_walk n G0 G1 S a0 a1 x2 x3 x4 = some (r, S')) : rv_Ev mX2_walk (3 + d + 1) 0 [(0, .ref a0), (1, .ref a1), (2, .int x2), (3, .int x3), (4, .int x4)] [] S (some (.int r)) S' := by
  unfold fbX2_walk at h
  refine re_iloadn (pc := 0) 3 (by decide +kernel : decode cX2_walk 0 = .ok (.iload_n 3, 1)) rfl ?_
  refine re_aloadn (pc := 1) 0 (by decide +kernel : decode cX2_walk 1 = .ok (.aload_n 0, 1)) rfl ?_
  obtain ⟨x1_, g2_, h⟩ := rv_b_e h
  refine re_gI (pc := 2) g2_ lfX2_165 rfl (by decide +kernel : decode cX2_walk 2 = .ok (.getfield 165, 3)) ?_
  rcases rv_if_e h with ⟨g3_, h⟩ | ⟨g3_, h⟩
  · refine re_icmp_ge_t (pc := 5) 13 (by decide +kernel : decode cX2_walk 5 = .ok (.if_icmp .ge 8, 3)) (by decide) g3_ ?_
    refine re_sub [2, 4] (lv1 := [(2, .int x2), (4, .int x4)]) rfl ?_
    exact eX2_walk_13 n G0 G1 d hG0 hG1 S x2 x4 _ _ h
  · refine re_icmp_ge_f (pc := 5) 13 (by decide +kernel : decode cX2_walk 5 = .ok (.if_icmp .ge 8, 3)) (by decide) g3_ ?_
    refine re_iloadn (pc := 8) 3 (by decide +kernel : decode cX2_walk 8 = .ok (.iload_n 3, 1)) rfl ?_
    refine re_iconst (pc := 9) (5 : Int32) (by decide +kernel : decode cX2_walk 9 = .ok (.iconst 5, 1)) (by decide) ?_
    rcases rv_if_e h with ⟨g4_, h⟩ | ⟨g4_, h⟩
    · refine re_icmp_lt_t (pc := 10) 25 (by decide +kernel : decode cX2_walk 10 = .ok (.if_icmp .lt 15, 3)) (by decide) g4_ ?_
      refine re_iconst (pc := 25) (0 : Int32) (by decide +kernel : decode cX2_walk 25 = .ok (.iconst 0, 1)) (by decide) ?_
      refine re_istore (pc := 26) (lv1 := [(5, .int (0 : Int32)), (0, .ref a0), (1, .ref a1), (2, .int x2), (3, .int x3), (4, .int x4)]) (by decide +kernel : decode cX2_walk 26 = .ok (.istore 5, 2)) (by decide) rfl ?_
      refine re_aloadn (pc := 28) 2 (by decide +kernel : decode cX2_walk 28 = .ok (.aload_n 1, 1)) rfl ?_
      refine re_iloadn (pc := 29) 3 (by decide +kernel : decode cX2_walk 29 = .ok (.iload_n 2, 1)) rfl ?_
      obtain ⟨x6_, g7_, h⟩ := rv_b_e h
      have m5_ := metX2_goers n S a1 x2 _ g7_
      refine re_cS (pc := 30) [.ref a1, .int x2] m5_ (rv_okl.k ⟨rfl, rfl⟩) (rv_up.rf _ _) (by omega) (Nat.le_of_ble_eq_true rfl) lSX2_141 rfl (by decide +kernel : decode cX2_walk 30 = .ok (.invokestatic 141, 3)) ?_
      refine re_aloadn (pc := 33) 1 (by decide +kernel : decode cX2_walk 33 = .ok (.aload_n 0, 1)) rfl ?_
      obtain ⟨a8_, g9_, h⟩ := rv_b_e h
      refine re_gR (pc := 34) g9_ lfX2_30 rfl (by decide +kernel : decode cX2_walk 34 = .ok (.getfield 30, 3)) ?_
      refine re_iloadn (pc := 37) 4 (by decide +kernel : decode cX2_walk 37 = .ok (.iload_n 3, 1)) rfl ?_
      obtain ⟨x10_, g11_, h⟩ := rv_b_e h
      refine re_aI (pc := 38) g11_ (by decide +kernel : decode cX2_walk 38 = .ok (.iaload, 1)) ?_
      refine re_iand (pc := 39) (by decide +kernel : decode cX2_walk 39 = .ok (.iand, 1)) ?_
      obtain ⟨x12_, g13_, h⟩ := rv_lt_e h
      refine re_nI (pc := 40) g13_ ?_
      refine re_istore (pc := 40) (lv1 := [(6, .int x12_), (5, .int (0 : Int32)), (0, .ref a0), (1, .ref a1), (2, .int x2), (3, .int x3), (4, .int x4)]) (by decide +kernel : decode cX2_walk 40 = .ok (.istore 6, 2)) (by decide) rfl ?_
      refine re_sub [2, 3, 4, 5, 6, 1, 0] (lv1 := [(0, .ref a0), (1, .ref a1), (2, .int x2), (3, .int x3), (4, .int x4), (5, .int (0 : Int32)), (6, .int x12_)]) rfl ?_
      exact eX2_walk_42 n G0 G1 d hG0 hG1 n S a0 a1 x2 x3 x4 (0 : Int32) x12_ _ _ h
    · refine re_icmp_lt_f (pc := 10) 25 (by decide +kernel : decode cX2_walk 10 = .ok (.if_icmp .lt 15, 3)) (by decide) g4_ ?_
      refine re_sub [2, 4] (lv1 := [(2, .int x2), (4, .int x4)]) rfl ?_
      exact eX2_walk_13 n G0 G1 d hG0 hG1 S x2 x4 _ _ h
noncomputable def fGX2_walkBy (n : Nat) : Nat → (rvS → Nat → Nat → Int32 → Int32 → Int32 → Int32 → Option (Int32 × rvS)) × (rvS → Nat → Nat → Int32 → Int32 → Int32 → Option (Int32 × rvS))
  | 0 => (fun _ _ _ _ _ _ _ => none, fun _ _ _ _ _ _ => none)
  | d + 1 => (fbX2_walkBy n ((fGX2_walkBy n d).1) ((fGX2_walkBy n d).2), fbX2_walk n ((fGX2_walkBy n d).1) ((fGX2_walkBy n d).2))
theorem fGX2_walkBy_ok (n : Nat) : ∀ d : Nat, (∀ (S : rvS) (z0 : Nat) (z1 : Nat) (z2 : Int32) (z3 : Int32) (z4 : Int32) (z5 : Int32) (r : Int32) (S' : rvS), ((fGX2_walkBy n d).1) S z0 z1 z2 z3 z4 z5 = some (r, S') → rv_Met yX2_walkBy mX2_walkBy (3 + d) [.ref z0, .ref z1, .int z2, .int z3, .int z4, .int z5] S (some (.int r)) S') ∧ (∀ (S : rvS) (z0 : Nat) (z1 : Nat) (z2 : Int32) (z3 : Int32) (z4 : Int32) (r : Int32) (S' : rvS), ((fGX2_walkBy n d).2) S z0 z1 z2 z3 z4 = some (r, S') → rv_Met yX2_walk mX2_walk (3 + d) [.ref z0, .ref z1, .int z2, .int z3, .int z4] S (some (.int r)) S') := by
  intro d
  induction d with
  | zero => exact ⟨(by intros; rename_i h; exact absurd h (by simp [fGX2_walkBy])), (by intros; rename_i h; exact absurd h (by simp [fGX2_walkBy]))⟩
  | succ d ih =>
    obtain ⟨i0, i1⟩ := ih
    exact ⟨(fun S z0 z1 z2 z3 z4 z5 r S' h => rv_Met.of ⟨by decide +kernel, rfl, (fun z => by first | rfl | cases z), rfl⟩ (Nat.le_of_ble_eq_true rfl) rfl (eX2_walkBy_in n ((fGX2_walkBy n d).1) ((fGX2_walkBy n d).2) d i0 i1 S z0 z1 z2 z3 z4 z5 r S' h)), (fun S z0 z1 z2 z3 z4 r S' h => rv_Met.of ⟨by decide +kernel, rfl, (fun z => by first | rfl | cases z), rfl⟩ (Nat.le_of_ble_eq_true rfl) rfl (eX2_walk_in n ((fGX2_walkBy n d).1) ((fGX2_walkBy n d).2) d i0 i1 S z0 z1 z2 z3 z4 r S' h))⟩
noncomputable def fnX2_walkBy (n d : Nat) : rvS → Nat → Nat → Int32 → Int32 → Int32 → Int32 → Option (Int32 × rvS) := (fGX2_walkBy n d).1
theorem metX2_walkBy (n d : Nat) (S : rvS) (z0 : Nat) (z1 : Nat) (z2 : Int32) (z3 : Int32) (z4 : Int32) (z5 : Int32) (r : Int32) (S' : rvS) (h : fnX2_walkBy n d S z0 z1 z2 z3 z4 z5 = some (r, S')) : rv_Met yX2_walkBy mX2_walkBy (3 + d) [.ref z0, .ref z1, .int z2, .int z3, .int z4, .int z5] S (some (.int r)) S' := (fGX2_walkBy_ok n d).1 S z0 z1 z2 z3 z4 z5 r S' h
noncomputable def fnX2_walk (n d : Nat) : rvS → Nat → Nat → Int32 → Int32 → Int32 → Option (Int32 × rvS) := (fGX2_walkBy n d).2
theorem metX2_walk (n d : Nat) (S : rvS) (z0 : Nat) (z1 : Nat) (z2 : Int32) (z3 : Int32) (z4 : Int32) (r : Int32) (S' : rvS) (h : fnX2_walk n d S z0 z1 z2 z3 z4 = some (r, S')) : rv_Met yX2_walk mX2_walk (3 + d) [.ref z0, .ref z1, .int z2, .int z3, .int z4] S (some (.int r)) S' := (fGX2_walkBy_ok n d).2 S z0 z1 z2 z3 z4 r S' h
noncomputable def cX2_countWays_82 (n : Nat) (K15 : Nat → Nat → Int32 → Int32 → Int32 → Nat → Int32 → rvS → Option (Int32 × rvS)) (S : rvS) (a0 : Nat) (a1 : Nat) (x2 : Int32) (x3 : Int32) (x4 : Int32) (a5 : Nat) (x6 : Int32) (t0 : Nat) (t1 : Int32) (t2 : Int32) : Option (Int32 × rvS) :=
  (rv_uI S t0 t1 t2).bind fun S1_ =>
  (rv_gR S1_ 1 a0 7).bind fun a3_ =>
  (rv_uI S1_ a3_ x6 (0 : Int32)).bind fun S5_ =>
  rv_lt (x6 + (1)) fun x7_ =>
  K15 a0 a1 x2 x3 x4 a5 x7_ S5_
set_option maxRecDepth 20000 in
set_option maxHeartbeats 4000000 in
theorem eX2_countWays_82 (n : Nat) (K15 : Nat → Nat → Int32 → Int32 → Int32 → Nat → Int32 → rvS → Option (Int32 × rvS)) (hK15 : ∀ (a0 : Nat) (a1 : Nat) (x2 : Int32) (x3 : Int32) (x4 : Int32) (a5 : Nat) (x6 : Int32) (S : rvS) (r : Int32) (S' : rvS), K15 a0 a1 x2 x3 x4 a5 x6 S = some (r, S') → rv_Ev mX2_countWays 20 15 [(0, .ref a0), (1, .ref a1), (2, .int x2), (3, .int x3), (4, .int x4), (5, .ref a5), (6, .int x6)] [] S (some (.int r)) S') (S : rvS) (a0 : Nat) (a1 : Nat) (x2 : Int32) (x3 : Int32) (x4 : Int32) (a5 : Nat) (x6 : Int32) (t0 : Nat) (t1 : Int32) (t2 : Int32) (r : Int32) (S' : rvS) (h : cX2_countWays_82 n K15 S a0 a1 x2 x3 x4 a5 x6 t0 t1 t2 = some (r, S')) : rv_Ev mX2_countWays 20 82 [(0, .ref a0), (1, .ref a1), (2, .int x2), (3, .int x3), (4, .int x4), (5, .ref a5), (6, .int x6)] [.int t2, .int t1, .ref t0] S (some (.int r)) S' := by
  unfold cX2_countWays_82 at h
  obtain ⟨S1_, g2_, h⟩ := rv_b_e h
  refine re_uI (pc := 82) g2_ (by decide +kernel : decode cX2_countWays 82 = .ok (.iastore, 1)) ?_
  refine re_aloadn (pc := 83) 0 (by decide +kernel : decode cX2_countWays 83 = .ok (.aload_n 0, 1)) rfl ?_
  obtain ⟨a3_, g4_, h⟩ := rv_b_e h
  refine re_gR (pc := 84) g4_ lfX2_33 rfl (by decide +kernel : decode cX2_countWays 84 = .ok (.getfield 33, 3)) ?_
  refine re_iload (pc := 87) 6 (by decide +kernel : decode cX2_countWays 87 = .ok (.iload 6, 2)) rfl ?_
  refine re_iconst (pc := 89) (0 : Int32) (by decide +kernel : decode cX2_countWays 89 = .ok (.iconst 0, 1)) (by decide) ?_
  obtain ⟨S5_, g6_, h⟩ := rv_b_e h
  refine re_uI (pc := 90) g6_ (by decide +kernel : decode cX2_countWays 90 = .ok (.iastore, 1)) ?_
  obtain ⟨x7_, g8_, h⟩ := rv_lt_e h
  refine re_iinc (pc := 91) 6 x7_ (lv1 := [(6, .int x7_), (0, .ref a0), (1, .ref a1), (2, .int x2), (3, .int x3), (4, .int x4), (5, .ref a5)]) (by decide +kernel : decode cX2_countWays 91 = .ok (.iinc 6 1, 3)) rfl g8_ (by decide) rfl ?_
  refine re_goto (pc := 94) 15 (by decide +kernel : decode cX2_countWays 94 = .ok (.goto (-79), 3)) (by decide) ?_
  refine re_sub [1, 2, 3, 4, 5, 6, 0] (lv1 := [(0, .ref a0), (1, .ref a1), (2, .int x2), (3, .int x3), (4, .int x4), (5, .ref a5), (6, .int x7_)]) rfl ?_
  exact hK15 a0 a1 x2 x3 x4 a5 x7_ S5_ _ _ h
noncomputable def cX2_countWays_60 (n : Nat) (K15 : Nat → Nat → Int32 → Int32 → Int32 → Nat → Int32 → rvS → Option (Int32 × rvS)) (S : rvS) (a0 : Nat) (a1 : Nat) (x2 : Int32) (x3 : Int32) (x4 : Int32) (a5 : Nat) (x6 : Int32) (t0 : Int32) : Option (Int32 × rvS) :=
  (rv_gR S 1 a0 6).bind fun a1_ =>
  if t0 = (-1 : Int32) then (
    cX2_countWays_82 n K15 S a0 a1 x2 x3 x4 a5 x6 a1_ x6 (-1 : Int32))
  else (
    cX2_countWays_82 n K15 S a0 a1 x2 x3 x4 a5 x6 a1_ x6 ((1 : Int32) <<< (t0 &&& 31)))
set_option maxRecDepth 20000 in
set_option maxHeartbeats 4000000 in
theorem eX2_countWays_60 (n : Nat) (K15 : Nat → Nat → Int32 → Int32 → Int32 → Nat → Int32 → rvS → Option (Int32 × rvS)) (hK15 : ∀ (a0 : Nat) (a1 : Nat) (x2 : Int32) (x3 : Int32) (x4 : Int32) (a5 : Nat) (x6 : Int32) (S : rvS) (r : Int32) (S' : rvS), K15 a0 a1 x2 x3 x4 a5 x6 S = some (r, S') → rv_Ev mX2_countWays 20 15 [(0, .ref a0), (1, .ref a1), (2, .int x2), (3, .int x3), (4, .int x4), (5, .ref a5), (6, .int x6)] [] S (some (.int r)) S') (S : rvS) (a0 : Nat) (a1 : Nat) (x2 : Int32) (x3 : Int32) (x4 : Int32) (a5 : Nat) (x6 : Int32) (t0 : Int32) (r : Int32) (S' : rvS) (h : cX2_countWays_60 n K15 S a0 a1 x2 x3 x4 a5 x6 t0 = some (r, S')) : rv_Ev mX2_countWays 20 60 [(0, .ref a0), (1, .ref a1), (2, .int x2), (3, .int x3), (4, .int x4), (5, .ref a5), (6, .int x6)] [.int t0] S (some (.int r)) S' := by
  unfold cX2_countWays_60 at h
  refine re_istore (pc := 60) (lv1 := [(7, .int t0), (0, .ref a0), (1, .ref a1), (2, .int x2), (3, .int x3), (4, .int x4), (5, .ref a5), (6, .int x6)]) (by decide +kernel : decode cX2_countWays 60 = .ok (.istore 7, 2)) (by decide) rfl ?_
  refine re_aloadn (pc := 62) 1 (by decide +kernel : decode cX2_countWays 62 = .ok (.aload_n 0, 1)) rfl ?_
  obtain ⟨a1_, g2_, h⟩ := rv_b_e h
  refine re_gR (pc := 63) g2_ lfX2_30 rfl (by decide +kernel : decode cX2_countWays 63 = .ok (.getfield 30, 3)) ?_
  refine re_iload (pc := 66) 7 (by decide +kernel : decode cX2_countWays 66 = .ok (.iload 6, 2)) rfl ?_
  refine re_iload (pc := 68) 0 (by decide +kernel : decode cX2_countWays 68 = .ok (.iload 7, 2)) rfl ?_
  refine re_iconst (pc := 70) (-1 : Int32) (by decide +kernel : decode cX2_countWays 70 = .ok (.iconst (-1), 1)) (by decide) ?_
  rcases rv_if_e h with ⟨g3_, h⟩ | ⟨g3_, h⟩
  · refine re_icmp_ne_f (pc := 71) 78 (by decide +kernel : decode cX2_countWays 71 = .ok (.if_icmp .ne 7, 3)) (by decide) g3_ ?_
    refine re_iconst (pc := 74) (-1 : Int32) (by decide +kernel : decode cX2_countWays 74 = .ok (.iconst (-1), 1)) (by decide) ?_
    refine re_goto (pc := 75) 82 (by decide +kernel : decode cX2_countWays 75 = .ok (.goto 7, 3)) (by decide) ?_
    refine re_sub [1, 2, 3, 4, 5, 6, 7] (lv1 := [(0, .ref a0), (1, .ref a1), (2, .int x2), (3, .int x3), (4, .int x4), (5, .ref a5), (6, .int x6)]) rfl ?_
    exact eX2_countWays_82 n K15 hK15 S a0 a1 x2 x3 x4 a5 x6 a1_ x6 (-1 : Int32) _ _ h
  · refine re_icmp_ne_t (pc := 71) 78 (by decide +kernel : decode cX2_countWays 71 = .ok (.if_icmp .ne 7, 3)) (by decide) g3_ ?_
    refine re_iconst (pc := 78) (1 : Int32) (by decide +kernel : decode cX2_countWays 78 = .ok (.iconst 1, 1)) (by decide) ?_
    refine re_iload (pc := 79) 0 (by decide +kernel : decode cX2_countWays 79 = .ok (.iload 7, 2)) rfl ?_
    refine re_ishl (pc := 81) (by decide +kernel : decode cX2_countWays 81 = .ok (.ishl, 1)) ?_
    refine re_sub [1, 2, 3, 4, 5, 6, 7] (lv1 := [(0, .ref a0), (1, .ref a1), (2, .int x2), (3, .int x3), (4, .int x4), (5, .ref a5), (6, .int x6)]) rfl ?_
    exact eX2_countWays_82 n K15 hK15 S a0 a1 x2 x3 x4 a5 x6 a1_ x6 ((1 : Int32) <<< (t0 &&& 31)) _ _ h
noncomputable def cX2_countWays_97 (n : Nat) (S : rvS) (a0 : Nat) (a1 : Nat) (x2 : Int32) (x3 : Int32) (x4 : Int32) (a5 : Nat) : Option (Int32 × rvS) :=
  (rv_ck S 5 a5).bind fun u1_ =>
  (fnX6_names n S a5 x2).bind fun x4_ =>
  (rv_gI S 5 a5 1).bind fun x6_ =>
  if x4_ = (if x4 < x6_ then x4 else x6_) then (
    (fnX2_stateOf n S x3 (0 : Int32)).bind fun x10_ =>
    (fnX2_stateNow n S a5 x2).bind fun x13_ =>
    (rv_ck S 1 a0).bind fun u15_ =>
    rv_bp (fnX2_walk n 16 S a0 a1 x10_ (0 : Int32) x13_) fun x18_ S19_ =>
    some (x18_, S19_))
  else (
    some ((0 : Int32), S))
set_option maxRecDepth 20000 in
set_option maxHeartbeats 4000000 in
theorem eX2_countWays_97 (n : Nat) (S : rvS) (a0 : Nat) (a1 : Nat) (x2 : Int32) (x3 : Int32) (x4 : Int32) (a5 : Nat) (r : Int32) (S' : rvS) (h : cX2_countWays_97 n S a0 a1 x2 x3 x4 a5 = some (r, S')) : rv_Ev mX2_countWays 20 97 [(0, .ref a0), (1, .ref a1), (2, .int x2), (3, .int x3), (4, .int x4), (5, .ref a5)] [] S (some (.int r)) S' := by
  unfold cX2_countWays_97 at h
  refine re_aload (pc := 97) 5 (by decide +kernel : decode cX2_countWays 97 = .ok (.aload 5, 2)) rfl ?_
  refine re_iloadn (pc := 99) 2 (by decide +kernel : decode cX2_countWays 99 = .ok (.iload_n 2, 1)) rfl ?_
  obtain ⟨u1_, g2_, h⟩ := rv_b_e h
  obtain ⟨x4_, g5_, h⟩ := rv_b_e h
  have m3_ := metX6_names n S a5 x2 _ g5_
  refine re_cV (pc := 100) [.int x2] m3_ (rv_okl.k ⟨rfl, rfl⟩) (rv_up.rf _ _) (by decide) (rv_ck_e g2_) ⟨by decide, rfl⟩ (Nat.le_of_ble_eq_true rfl) lVX2_112 rfl (by decide +kernel : decode cX2_countWays 100 = .ok (.invokevirtual 112, 3)) ?_
  refine re_aload (pc := 103) 5 (by decide +kernel : decode cX2_countWays 103 = .ok (.aload 5, 2)) rfl ?_
  obtain ⟨x6_, g7_, h⟩ := rv_b_e h
  refine re_gI (pc := 105) g7_ lfX2_115 rfl (by decide +kernel : decode cX2_countWays 105 = .ok (.getfield 115, 3)) ?_
  refine re_iload (pc := 108) 4 (by decide +kernel : decode cX2_countWays 108 = .ok (.iload 4, 2)) rfl ?_
  refine re_mmin (pc := 110) (rw5 199 (by decide +kernel) rfl) (by decide) (Nat.le_of_ble_eq_true rfl) (by decide +kernel : decode cX2_countWays 110 = .ok (.invokestatic 168, 3)) ?_
  rcases rv_if_e h with ⟨g8_, h⟩ | ⟨g8_, h⟩
  · refine re_icmp_eq_t (pc := 113) 118 (by decide +kernel : decode cX2_countWays 113 = .ok (.if_icmp .eq 5, 3)) (by decide) g8_ ?_
    refine re_aloadn (pc := 118) 0 (by decide +kernel : decode cX2_countWays 118 = .ok (.aload_n 0, 1)) rfl ?_
    refine re_aloadn (pc := 119) 1 (by decide +kernel : decode cX2_countWays 119 = .ok (.aload_n 1, 1)) rfl ?_
    refine re_iloadn (pc := 120) 3 (by decide +kernel : decode cX2_countWays 120 = .ok (.iload_n 3, 1)) rfl ?_
    refine re_iconst (pc := 121) (0 : Int32) (by decide +kernel : decode cX2_countWays 121 = .ok (.iconst 0, 1)) (by decide) ?_
    obtain ⟨x10_, g11_, h⟩ := rv_b_e h
    have m9_ := metX2_stateOf n S x3 (0 : Int32) _ g11_
    refine re_cS (pc := 122) [.int x3, .int (0 : Int32)] m9_ (rv_okl.k ⟨rfl, rfl⟩) (rv_up.rf _ _) (by decide) (Nat.le_of_ble_eq_true rfl) lSX2_47 rfl (by decide +kernel : decode cX2_countWays 122 = .ok (.invokestatic 47, 3)) ?_
    refine re_iconst (pc := 125) (0 : Int32) (by decide +kernel : decode cX2_countWays 125 = .ok (.iconst 0, 1)) (by decide) ?_
    refine re_aload (pc := 126) 5 (by decide +kernel : decode cX2_countWays 126 = .ok (.aload 5, 2)) rfl ?_
    refine re_iloadn (pc := 128) 2 (by decide +kernel : decode cX2_countWays 128 = .ok (.iload_n 2, 1)) rfl ?_
    obtain ⟨x13_, g14_, h⟩ := rv_b_e h
    have m12_ := metX2_stateNow n S a5 x2 _ g14_
    refine re_cS (pc := 129) [.ref a5, .int x2] m12_ (rv_okl.k ⟨rfl, rfl⟩) (rv_up.rf _ _) (by decide) (Nat.le_of_ble_eq_true rfl) lSX2_83 rfl (by decide +kernel : decode cX2_countWays 129 = .ok (.invokestatic 83, 3)) ?_
    obtain ⟨u15_, g16_, h⟩ := rv_b_e h
    obtain ⟨x18_, S19_, g20_, h⟩ := rv_bp_e h
    have m17_ := metX2_walk n 16 S a0 a1 x10_ (0 : Int32) x13_ _ _ g20_
    have z21_ : rv_same S S19_ := m17_.sh rfl
    refine re_cV (pc := 132) [.ref a1, .int x10_, .int (0 : Int32), .int x13_] m17_ (rv_okl.k z21_) (rv_up.sh z21_) (by decide) (rv_ck_e g16_) ⟨by decide, rfl⟩ (Nat.le_of_ble_eq_true rfl) lVX2_173 rfl (by decide +kernel : decode cX2_countWays 132 = .ok (.invokevirtual 173, 3)) ?_
    cases h
    exact re_iret (fun ty hty => by cases hty; rfl) (by decide +kernel : decode cX2_countWays 135 = .ok (.ireturn, 1))
  · refine re_icmp_eq_f (pc := 113) 118 (by decide +kernel : decode cX2_countWays 113 = .ok (.if_icmp .eq 5, 3)) (by decide) g8_ ?_
    refine re_iconst (pc := 116) (0 : Int32) (by decide +kernel : decode cX2_countWays 116 = .ok (.iconst 0, 1)) (by decide) ?_
    cases h
    exact re_iret (fun ty hty => by cases hty; rfl) (by decide +kernel : decode cX2_countWays 117 = .ok (.ireturn, 1))
noncomputable def cX2_countWays_15 (n : Nat) : Nat → rvS → Nat → Nat → Int32 → Int32 → Int32 → Nat → Int32 → Option (Int32 × rvS)
  | 0, _, _, _, _, _, _, _, _ => none
  | k + 1, S, a0, a1, x2, x3, x4, a5, x6 =>
    if x4 ≤ x6 then (
      cX2_countWays_97 n S a0 a1 x2 x3 x4 a5)
    else (
      if (5 : Int32) ≤ x6 then (
        cX2_countWays_97 n S a0 a1 x2 x3 x4 a5)
      else (
        if x6 = (x4 - (1 : Int32)) then (
          (rv_gR S 5 a5 3).bind fun a9_ =>
          (rv_aI S 0 a9_ x2).bind fun x11_ =>
          cX2_countWays_60 n (fun a0 a1 x2 x3 x4 a5 x6 S => cX2_countWays_15 n k S a0 a1 x2 x3 x4 a5 x6) S a0 a1 x2 x3 x4 a5 x6 x11_)
        else (
          (rv_ck S 5 a5).bind fun u4_ =>
          (fnX6_nameAt n S a5 x2 ((x4 - (2 : Int32)) - x6)).bind fun x7_ =>
          cX2_countWays_60 n (fun a0 a1 x2 x3 x4 a5 x6 S => cX2_countWays_15 n k S a0 a1 x2 x3 x4 a5 x6) S a0 a1 x2 x3 x4 a5 x6 x7_)))
set_option maxRecDepth 20000 in
set_option maxHeartbeats 4000000 in
theorem eX2_countWays_15 (n : Nat) : ∀ (k : Nat) (S : rvS) (a0 : Nat) (a1 : Nat) (x2 : Int32) (x3 : Int32) (x4 : Int32) (a5 : Nat) (x6 : Int32) (r : Int32) (S' : rvS), cX2_countWays_15 n k S a0 a1 x2 x3 x4 a5 x6 = some (r, S') → rv_Ev mX2_countWays 20 15 [(0, .ref a0), (1, .ref a1), (2, .int x2), (3, .int x3), (4, .int x4), (5, .ref a5), (6, .int x6)] [] S (some (.int r)) S' := by
  intro k
  induction k with
  | zero => intro S a0 a1 x2 x3 x4 a5 x6 r S' h; exact absurd h (by simp [cX2_countWays_15])
  | succ k ih =>
    intro S a0 a1 x2 x3 x4 a5 x6 r S' h
    unfold cX2_countWays_15 at h
    refine re_iload (pc := 15) 6 (by decide +kernel : decode cX2_countWays 15 = .ok (.iload 6, 2)) rfl ?_
    refine re_iload (pc := 17) 4 (by decide +kernel : decode cX2_countWays 17 = .ok (.iload 4, 2)) rfl ?_
    rcases rv_if_e h with ⟨g1_, h⟩ | ⟨g1_, h⟩
    · refine re_icmp_ge_t (pc := 19) 97 (by decide +kernel : decode cX2_countWays 19 = .ok (.if_icmp .ge 78, 3)) (by decide) g1_ ?_
      refine re_sub [0, 1, 2, 3, 4, 5] (lv1 := [(0, .ref a0), (1, .ref a1), (2, .int x2), (3, .int x3), (4, .int x4), (5, .ref a5)]) rfl ?_
      exact eX2_countWays_97 n S a0 a1 x2 x3 x4 a5 _ _ h
    · refine re_icmp_ge_f (pc := 19) 97 (by decide +kernel : decode cX2_countWays 19 = .ok (.if_icmp .ge 78, 3)) (by decide) g1_ ?_
      refine re_iload (pc := 22) 6 (by decide +kernel : decode cX2_countWays 22 = .ok (.iload 6, 2)) rfl ?_
      refine re_iconst (pc := 24) (5 : Int32) (by decide +kernel : decode cX2_countWays 24 = .ok (.iconst 5, 1)) (by decide) ?_
      rcases rv_if_e h with ⟨g2_, h⟩ | ⟨g2_, h⟩
      · refine re_icmp_ge_t (pc := 25) 97 (by decide +kernel : decode cX2_countWays 25 = .ok (.if_icmp .ge 72, 3)) (by decide) g2_ ?_
        refine re_sub [0, 1, 2, 3, 4, 5] (lv1 := [(0, .ref a0), (1, .ref a1), (2, .int x2), (3, .int x3), (4, .int x4), (5, .ref a5)]) rfl ?_
        exact eX2_countWays_97 n S a0 a1 x2 x3 x4 a5 _ _ h
      · refine re_icmp_ge_f (pc := 25) 97 (by decide +kernel : decode cX2_countWays 25 = .ok (.if_icmp .ge 72, 3)) (by decide) g2_ ?_
        refine re_iload (pc := 28) 6 (by decide +kernel : decode cX2_countWays 28 = .ok (.iload 6, 2)) rfl ?_
        refine re_iload (pc := 30) 4 (by decide +kernel : decode cX2_countWays 30 = .ok (.iload 4, 2)) rfl ?_
        refine re_iconst (pc := 32) (1 : Int32) (by decide +kernel : decode cX2_countWays 32 = .ok (.iconst 1, 1)) (by decide) ?_
        refine re_isub (pc := 33) (by decide +kernel : decode cX2_countWays 33 = .ok (.isub, 1)) ?_
        rcases rv_if_e h with ⟨g3_, h⟩ | ⟨g3_, h⟩
        · refine re_icmp_ne_f (pc := 34) 47 (by decide +kernel : decode cX2_countWays 34 = .ok (.if_icmp .ne 13, 3)) (by decide) g3_ ?_
          refine re_aload (pc := 37) 5 (by decide +kernel : decode cX2_countWays 37 = .ok (.aload 5, 2)) rfl ?_
          obtain ⟨a9_, g10_, h⟩ := rv_b_e h
          refine re_gR (pc := 39) g10_ lfX2_41 rfl (by decide +kernel : decode cX2_countWays 39 = .ok (.getfield 41, 3)) ?_
          refine re_iloadn (pc := 42) 2 (by decide +kernel : decode cX2_countWays 42 = .ok (.iload_n 2, 1)) rfl ?_
          obtain ⟨x11_, g12_, h⟩ := rv_b_e h
          refine re_aI (pc := 43) g12_ (by decide +kernel : decode cX2_countWays 43 = .ok (.iaload, 1)) ?_
          refine re_goto (pc := 44) 60 (by decide +kernel : decode cX2_countWays 44 = .ok (.goto 16, 3)) (by decide) ?_
          exact eX2_countWays_60 n (fun a0 a1 x2 x3 x4 a5 x6 S => cX2_countWays_15 n k S a0 a1 x2 x3 x4 a5 x6) (fun a0 a1 x2 x3 x4 a5 x6 S _ _ h => ih S a0 a1 x2 x3 x4 a5 x6 _ _ h) S a0 a1 x2 x3 x4 a5 x6 x11_ _ _ h
        · refine re_icmp_ne_t (pc := 34) 47 (by decide +kernel : decode cX2_countWays 34 = .ok (.if_icmp .ne 13, 3)) (by decide) g3_ ?_
          refine re_aload (pc := 47) 5 (by decide +kernel : decode cX2_countWays 47 = .ok (.aload 5, 2)) rfl ?_
          refine re_iloadn (pc := 49) 2 (by decide +kernel : decode cX2_countWays 49 = .ok (.iload_n 2, 1)) rfl ?_
          refine re_iload (pc := 50) 4 (by decide +kernel : decode cX2_countWays 50 = .ok (.iload 4, 2)) rfl ?_
          refine re_iconst (pc := 52) (2 : Int32) (by decide +kernel : decode cX2_countWays 52 = .ok (.iconst 2, 1)) (by decide) ?_
          refine re_isub (pc := 53) (by decide +kernel : decode cX2_countWays 53 = .ok (.isub, 1)) ?_
          refine re_iload (pc := 54) 6 (by decide +kernel : decode cX2_countWays 54 = .ok (.iload 6, 2)) rfl ?_
          refine re_isub (pc := 56) (by decide +kernel : decode cX2_countWays 56 = .ok (.isub, 1)) ?_
          obtain ⟨u4_, g5_, h⟩ := rv_b_e h
          obtain ⟨x7_, g8_, h⟩ := rv_b_e h
          have m6_ := metX6_nameAt n S a5 x2 ((x4 - (2 : Int32)) - x6) _ g8_
          refine re_cV (pc := 57) [.int x2, .int ((x4 - (2 : Int32)) - x6)] m6_ (rv_okl.k ⟨rfl, rfl⟩) (rv_up.rf _ _) (by decide) (rv_ck_e g5_) ⟨by decide, rfl⟩ (Nat.le_of_ble_eq_true rfl) lVX2_127 rfl (by decide +kernel : decode cX2_countWays 57 = .ok (.invokevirtual 127, 3)) ?_
          exact eX2_countWays_60 n (fun a0 a1 x2 x3 x4 a5 x6 S => cX2_countWays_15 n k S a0 a1 x2 x3 x4 a5 x6) (fun a0 a1 x2 x3 x4 a5 x6 S _ _ h => ih S a0 a1 x2 x3 x4 a5 x6 _ _ h) S a0 a1 x2 x3 x4 a5 x6 x7_ _ _ h
noncomputable def fnX2_countWays (n : Nat) (S : rvS) (a0 : Nat) (a1 : Nat) (x2 : Int32) (x3 : Int32) (x4 : Int32) : Option (Int32 × rvS) :=
  (rv_gR S 8 a1 1).bind fun a1_ =>
  (rv_pI S 1 a0 8 x4).bind fun S3_ =>
  cX2_countWays_15 n n S3_ a0 a1 x2 x3 x4 a1_ (0 : Int32)
set_option maxRecDepth 20000 in
set_option maxHeartbeats 4000000 in
theorem eX2_countWays_in (n : Nat) (S : rvS) (a0 : Nat) (a1 : Nat) (x2 : Int32) (x3 : Int32) (x4 : Int32) (r : Int32) (S' : rvS) (h : fnX2_countWays n S a0 a1 x2 x3 x4 = some (r, S')) : rv_Ev mX2_countWays 20 0 [(0, .ref a0), (1, .ref a1), (2, .int x2), (3, .int x3), (4, .int x4)] [] S (some (.int r)) S' := by
  unfold fnX2_countWays at h
  refine re_aloadn (pc := 0) 1 (by decide +kernel : decode cX2_countWays 0 = .ok (.aload_n 1, 1)) rfl ?_
  obtain ⟨a1_, g2_, h⟩ := rv_b_e h
  refine re_gR (pc := 1) g2_ lfX2_67 rfl (by decide +kernel : decode cX2_countWays 1 = .ok (.getfield 67, 3)) ?_
  refine re_astore (pc := 4) (lv1 := [(5, .ref a1_), (0, .ref a0), (1, .ref a1), (2, .int x2), (3, .int x3), (4, .int x4)]) (by decide +kernel : decode cX2_countWays 4 = .ok (.astore 5, 2)) (by decide) rfl ?_
  refine re_aloadn (pc := 6) 1 (by decide +kernel : decode cX2_countWays 6 = .ok (.aload_n 0, 1)) rfl ?_
  refine re_iload (pc := 7) 5 (by decide +kernel : decode cX2_countWays 7 = .ok (.iload 4, 2)) rfl ?_
  obtain ⟨S3_, g4_, h⟩ := rv_b_e h
  refine re_pI (pc := 9) g4_ lfX2_165 rfl rfl rfl rfl (by decide +kernel : decode cX2_countWays 9 = .ok (.putfield 165, 3)) ?_
  refine re_iconst (pc := 12) (0 : Int32) (by decide +kernel : decode cX2_countWays 12 = .ok (.iconst 0, 1)) (by decide) ?_
  refine re_istore (pc := 13) (lv1 := [(6, .int (0 : Int32)), (5, .ref a1_), (0, .ref a0), (1, .ref a1), (2, .int x2), (3, .int x3), (4, .int x4)]) (by decide +kernel : decode cX2_countWays 13 = .ok (.istore 6, 2)) (by decide) rfl ?_
  refine re_sub [2, 3, 4, 5, 6, 1, 0] (lv1 := [(0, .ref a0), (1, .ref a1), (2, .int x2), (3, .int x3), (4, .int x4), (5, .ref a1_), (6, .int (0 : Int32))]) rfl ?_
  exact eX2_countWays_15 n n S3_ a0 a1 x2 x3 x4 a1_ (0 : Int32) _ _ h
theorem metX2_countWays (n : Nat) (S : rvS) (a0 : Nat) (a1 : Nat) (x2 : Int32) (x3 : Int32) (x4 : Int32) (r : Int32) (S' : rvS) (h : fnX2_countWays n S a0 a1 x2 x3 x4 = some (r, S')) : rv_Met yX2_countWays mX2_countWays 20 [.ref a0, .ref a1, .int x2, .int x3, .int x4] S (some (.int r)) S' := rv_Met.of ⟨by decide +kernel, rfl, (fun z => by first | rfl | cases z), rfl⟩ (Nat.le_of_ble_eq_true rfl) rfl (eX2_countWays_in n S a0 a1 x2 x3 x4 r S' h)
noncomputable def fnX2_hadBy (n : Nat) (S : rvS) (a0 : Nat) (x1 : Int32) : Option Int32 :=
  if x1 < 0 then (
    some (-1 : Int32))
  else (
    (rv_gI S 1 a0 8).bind fun x2_ =>
    if x2_ ≤ x1 then (
      some (-1 : Int32))
    else (
      if (5 : Int32) ≤ x1 then (
        some (-1 : Int32))
      else (
        (rv_gR S 1 a0 7).bind fun a6_ =>
        (rv_aI S 0 a6_ x1).bind fun x8_ =>
        some x8_)))
set_option maxRecDepth 20000 in
set_option maxHeartbeats 4000000 in
theorem eX2_hadBy_in (n : Nat) (S : rvS) (a0 : Nat) (x1 : Int32) (r : Int32) (h : fnX2_hadBy n S a0 x1 = some r) : rv_Ev mX2_hadBy 0 0 [(0, .ref a0), (1, .int x1)] [] S (some (.int r)) S := by
  unfold fnX2_hadBy at h
  refine re_iloadn (pc := 0) 1 (by decide +kernel : decode cX2_hadBy 0 = .ok (.iload_n 1, 1)) rfl ?_
  rcases rv_if_e h with ⟨g1_, h⟩ | ⟨g1_, h⟩
  · refine re_if_lt_t (pc := 1) 26 (by decide +kernel : decode cX2_hadBy 1 = .ok (.ifCond .lt 25, 3)) (by decide) g1_ ?_
    refine re_iconst (pc := 26) (-1 : Int32) (by decide +kernel : decode cX2_hadBy 26 = .ok (.iconst (-1), 1)) (by decide) ?_
    cases h
    exact re_iret (fun ty hty => by cases hty; rfl) (by decide +kernel : decode cX2_hadBy 27 = .ok (.ireturn, 1))
  · refine re_if_lt_f (pc := 1) 26 (by decide +kernel : decode cX2_hadBy 1 = .ok (.ifCond .lt 25, 3)) (by decide) g1_ ?_
    refine re_iloadn (pc := 4) 1 (by decide +kernel : decode cX2_hadBy 4 = .ok (.iload_n 1, 1)) rfl ?_
    refine re_aloadn (pc := 5) 0 (by decide +kernel : decode cX2_hadBy 5 = .ok (.aload_n 0, 1)) rfl ?_
    obtain ⟨x2_, g3_, h⟩ := rv_b_e h
    refine re_gI (pc := 6) g3_ lfX2_165 rfl (by decide +kernel : decode cX2_hadBy 6 = .ok (.getfield 165, 3)) ?_
    rcases rv_if_e h with ⟨g4_, h⟩ | ⟨g4_, h⟩
    · refine re_icmp_ge_t (pc := 9) 26 (by decide +kernel : decode cX2_hadBy 9 = .ok (.if_icmp .ge 17, 3)) (by decide) g4_ ?_
      refine re_iconst (pc := 26) (-1 : Int32) (by decide +kernel : decode cX2_hadBy 26 = .ok (.iconst (-1), 1)) (by decide) ?_
      cases h
      exact re_iret (fun ty hty => by cases hty; rfl) (by decide +kernel : decode cX2_hadBy 27 = .ok (.ireturn, 1))
    · refine re_icmp_ge_f (pc := 9) 26 (by decide +kernel : decode cX2_hadBy 9 = .ok (.if_icmp .ge 17, 3)) (by decide) g4_ ?_
      refine re_iloadn (pc := 12) 1 (by decide +kernel : decode cX2_hadBy 12 = .ok (.iload_n 1, 1)) rfl ?_
      refine re_iconst (pc := 13) (5 : Int32) (by decide +kernel : decode cX2_hadBy 13 = .ok (.iconst 5, 1)) (by decide) ?_
      rcases rv_if_e h with ⟨g5_, h⟩ | ⟨g5_, h⟩
      · refine re_icmp_ge_t (pc := 14) 26 (by decide +kernel : decode cX2_hadBy 14 = .ok (.if_icmp .ge 12, 3)) (by decide) g5_ ?_
        refine re_iconst (pc := 26) (-1 : Int32) (by decide +kernel : decode cX2_hadBy 26 = .ok (.iconst (-1), 1)) (by decide) ?_
        cases h
        exact re_iret (fun ty hty => by cases hty; rfl) (by decide +kernel : decode cX2_hadBy 27 = .ok (.ireturn, 1))
      · refine re_icmp_ge_f (pc := 14) 26 (by decide +kernel : decode cX2_hadBy 14 = .ok (.if_icmp .ge 12, 3)) (by decide) g5_ ?_
        refine re_aloadn (pc := 17) 0 (by decide +kernel : decode cX2_hadBy 17 = .ok (.aload_n 0, 1)) rfl ?_
        obtain ⟨a6_, g7_, h⟩ := rv_b_e h
        refine re_gR (pc := 18) g7_ lfX2_33 rfl (by decide +kernel : decode cX2_hadBy 18 = .ok (.getfield 33, 3)) ?_
        refine re_iloadn (pc := 21) 1 (by decide +kernel : decode cX2_hadBy 21 = .ok (.iload_n 1, 1)) rfl ?_
        obtain ⟨x8_, g9_, h⟩ := rv_b_e h
        refine re_aI (pc := 22) g9_ (by decide +kernel : decode cX2_hadBy 22 = .ok (.iaload, 1)) ?_
        refine re_goto (pc := 23) 27 (by decide +kernel : decode cX2_hadBy 23 = .ok (.goto 4, 3)) (by decide) ?_
        cases h
        exact re_iret (fun ty hty => by cases hty; rfl) (by decide +kernel : decode cX2_hadBy 27 = .ok (.ireturn, 1))
theorem metX2_hadBy (n : Nat) (S : rvS) (a0 : Nat) (x1 : Int32) (r : Int32) (h : fnX2_hadBy n S a0 x1 = some r) : rv_Met yX2_hadBy mX2_hadBy 0 [.ref a0, .int x1] S (some (.int r)) S := rv_Met.of ⟨by decide +kernel, rfl, (fun z => by first | rfl | cases z), rfl⟩ (Nat.le_of_ble_eq_true rfl) rfl (eX2_hadBy_in n S a0 x1 r h)
noncomputable def fnX3_init (n : Nat) (S : rvS) (a0 : Nat) : Option Unit :=
  some ()
set_option maxRecDepth 20000 in
set_option maxHeartbeats 4000000 in
theorem eX3_init_in (n : Nat) (S : rvS) (a0 : Nat) (h : fnX3_init n S a0 = some ()) : rv_Ev mX3_init 1 0 [(0, .ref a0)] [] S none S := by
  unfold fnX3_init at h
  refine re_aloadn (pc := 0) 0 (by decide +kernel : decode cX3_init 0 = .ok (.aload_n 0, 1)) rfl ?_
  refine re_obj (pc := 1) (rw2 118 (by decide +kernel) rfl) rwoi rwoc (Nat.le_of_ble_eq_true rfl) (by decide) (by decide +kernel : decode cX3_init 1 = .ok (.invokespecial 1, 3)) ?_
  cases h
  exact re_vret (by decide +kernel : decode cX3_init 4 = .ok (.return_, 1))
theorem metX3_init (n : Nat) (S : rvS) (a0 : Nat) (h : fnX3_init n S a0 = some ()) : rv_Met yX3_init mX3_init 1 [.ref a0] S none S := rv_Met.of ⟨by decide +kernel, rfl, (fun z => by first | rfl | cases z), rfl⟩ (Nat.le_of_ble_eq_true rfl) rfl (eX3_init_in n S a0  h)
noncomputable def fnX3_begin (n : Nat) (S : rvS) (a0 : Nat) (x1 : Int32) : Option rvS :=
  (rv_pI S 2 a0 0 x1).bind fun S1_ =>
  (rv_pI S1_ 2 a0 1 (0 : Int32)).bind fun S3_ =>
  (rv_pI S3_ 2 a0 2 (0 : Int32)).bind fun S5_ =>
  (rv_pI S5_ 2 a0 3 (0 : Int32)).bind fun S7_ =>
  (rv_pI S7_ 2 a0 4 (0 : Int32)).bind fun S9_ =>
  some S9_
set_option maxRecDepth 20000 in
set_option maxHeartbeats 4000000 in
theorem eX3_begin_in (n : Nat) (S : rvS) (a0 : Nat) (x1 : Int32) (S' : rvS) (h : fnX3_begin n S a0 x1 = some S') : rv_Ev mX3_begin 0 0 [(0, .ref a0), (1, .int x1)] [] S none S' := by
  unfold fnX3_begin at h
  refine re_aloadn (pc := 0) 0 (by decide +kernel : decode cX3_begin 0 = .ok (.aload_n 0, 1)) rfl ?_
  refine re_iloadn (pc := 1) 1 (by decide +kernel : decode cX3_begin 1 = .ok (.iload_n 1, 1)) rfl ?_
  obtain ⟨S1_, g2_, h⟩ := rv_b_e h
  refine re_pI (pc := 2) g2_ lfX3_7 rfl rfl rfl rfl (by decide +kernel : decode cX3_begin 2 = .ok (.putfield 7, 3)) ?_
  refine re_aloadn (pc := 5) 0 (by decide +kernel : decode cX3_begin 5 = .ok (.aload_n 0, 1)) rfl ?_
  refine re_iconst (pc := 6) (0 : Int32) (by decide +kernel : decode cX3_begin 6 = .ok (.iconst 0, 1)) (by decide) ?_
  obtain ⟨S3_, g4_, h⟩ := rv_b_e h
  refine re_pI (pc := 7) g4_ lfX3_13 rfl rfl rfl rfl (by decide +kernel : decode cX3_begin 7 = .ok (.putfield 13, 3)) ?_
  refine re_aloadn (pc := 10) 0 (by decide +kernel : decode cX3_begin 10 = .ok (.aload_n 0, 1)) rfl ?_
  refine re_iconst (pc := 11) (0 : Int32) (by decide +kernel : decode cX3_begin 11 = .ok (.iconst 0, 1)) (by decide) ?_
  obtain ⟨S5_, g6_, h⟩ := rv_b_e h
  refine re_pI (pc := 12) g6_ lfX3_16 rfl rfl rfl rfl (by decide +kernel : decode cX3_begin 12 = .ok (.putfield 16, 3)) ?_
  refine re_aloadn (pc := 15) 0 (by decide +kernel : decode cX3_begin 15 = .ok (.aload_n 0, 1)) rfl ?_
  refine re_iconst (pc := 16) (0 : Int32) (by decide +kernel : decode cX3_begin 16 = .ok (.iconst 0, 1)) (by decide) ?_
  obtain ⟨S7_, g8_, h⟩ := rv_b_e h
  refine re_pI (pc := 17) g8_ lfX3_19 rfl rfl rfl rfl (by decide +kernel : decode cX3_begin 17 = .ok (.putfield 19, 3)) ?_
  refine re_aloadn (pc := 20) 0 (by decide +kernel : decode cX3_begin 20 = .ok (.aload_n 0, 1)) rfl ?_
  refine re_iconst (pc := 21) (0 : Int32) (by decide +kernel : decode cX3_begin 21 = .ok (.iconst 0, 1)) (by decide) ?_
  obtain ⟨S9_, g10_, h⟩ := rv_b_e h
  refine re_pI (pc := 22) g10_ lfX3_22 rfl rfl rfl rfl (by decide +kernel : decode cX3_begin 22 = .ok (.putfield 22, 3)) ?_
  cases h
  exact re_vret (by decide +kernel : decode cX3_begin 25 = .ok (.return_, 1))
theorem metX3_begin (n : Nat) (S : rvS) (a0 : Nat) (x1 : Int32) (S' : rvS) (h : fnX3_begin n S a0 x1 = some S') : rv_Met yX3_begin mX3_begin 0 [.ref a0, .int x1] S none S' := rv_Met.of ⟨by decide +kernel, rfl, (fun z => by first | rfl | cases z), rfl⟩ (Nat.le_of_ble_eq_true rfl) rfl (eX3_begin_in n S a0 x1 S' h)
noncomputable def fnX3_draw (n : Nat) (S : rvS) (a0 : Nat) (x1 : Int32) : Option (Int32 × rvS) :=
  (rv_gI S 2 a0 0).bind fun x1_ =>
  (rv_pI S 2 a0 0 ((x1_ * (1103515245 : Int32)) + (12345 : Int32))).bind fun S3_ =>
  if x1 ≤ 0 then (
    some ((0 : Int32), S3_))
  else (
    (rv_gI S3_ 2 a0 0).bind fun x6_ =>
    (rv_nz x1).bind fun u8_ =>
    some (((x6_.toUInt32 >>> ((8 : Int32).toUInt32 &&& Int32.toUInt32 31)).toInt32) - ((x6_.toUInt32 >>> ((8 : Int32).toUInt32 &&& Int32.toUInt32 31)).toInt32) / x1 * x1, S3_))
set_option maxRecDepth 20000 in
set_option maxHeartbeats 4000000 in
theorem eX3_draw_in (n : Nat) (S : rvS) (a0 : Nat) (x1 : Int32) (r : Int32) (S' : rvS) (h : fnX3_draw n S a0 x1 = some (r, S')) : rv_Ev mX3_draw 0 0 [(0, .ref a0), (1, .int x1)] [] S (some (.int r)) S' := by
  unfold fnX3_draw at h
  refine re_aloadn (pc := 0) 0 (by decide +kernel : decode cX3_draw 0 = .ok (.aload_n 0, 1)) rfl ?_
  refine re_aloadn (pc := 1) 0 (by decide +kernel : decode cX3_draw 1 = .ok (.aload_n 0, 1)) rfl ?_
  obtain ⟨x1_, g2_, h⟩ := rv_b_e h
  refine re_gI (pc := 2) g2_ lfX3_7 rfl (by decide +kernel : decode cX3_draw 2 = .ok (.getfield 7, 3)) ?_
  refine re_ldc (pc := 5) (v := 1103515245) (rw5 238 (by decide +kernel) rfl) (by decide +kernel : decode cX3_draw 5 = .ok (.ldc 25, 2)) ?_
  refine re_imul (pc := 7) (by decide +kernel : decode cX3_draw 7 = .ok (.imul, 1)) ?_
  refine re_sipush (pc := 8) (12345 : Int32) (by decide +kernel : decode cX3_draw 8 = .ok (.sipush 12345, 3)) (by decide) ?_
  refine re_iadd (pc := 11) (by decide +kernel : decode cX3_draw 11 = .ok (.iadd, 1)) ?_
  obtain ⟨S3_, g4_, h⟩ := rv_b_e h
  refine re_pI (pc := 12) g4_ lfX3_7 rfl rfl rfl rfl (by decide +kernel : decode cX3_draw 12 = .ok (.putfield 7, 3)) ?_
  refine re_iloadn (pc := 15) 1 (by decide +kernel : decode cX3_draw 15 = .ok (.iload_n 1, 1)) rfl ?_
  rcases rv_if_e h with ⟨g5_, h⟩ | ⟨g5_, h⟩
  · refine re_if_le_t (pc := 16) 31 (by decide +kernel : decode cX3_draw 16 = .ok (.ifCond .le 15, 3)) (by decide) g5_ ?_
    refine re_iconst (pc := 31) (0 : Int32) (by decide +kernel : decode cX3_draw 31 = .ok (.iconst 0, 1)) (by decide) ?_
    cases h
    exact re_iret (fun ty hty => by cases hty; rfl) (by decide +kernel : decode cX3_draw 32 = .ok (.ireturn, 1))
  · refine re_if_le_f (pc := 16) 31 (by decide +kernel : decode cX3_draw 16 = .ok (.ifCond .le 15, 3)) (by decide) g5_ ?_
    refine re_aloadn (pc := 19) 0 (by decide +kernel : decode cX3_draw 19 = .ok (.aload_n 0, 1)) rfl ?_
    obtain ⟨x6_, g7_, h⟩ := rv_b_e h
    refine re_gI (pc := 20) g7_ lfX3_7 rfl (by decide +kernel : decode cX3_draw 20 = .ok (.getfield 7, 3)) ?_
    refine re_bipush (pc := 23) (8 : Int32) (by decide +kernel : decode cX3_draw 23 = .ok (.bipush 8, 2)) (by decide) ?_
    refine re_iushr (pc := 25) (by decide +kernel : decode cX3_draw 25 = .ok (.iushr, 1)) ?_
    refine re_iloadn (pc := 26) 1 (by decide +kernel : decode cX3_draw 26 = .ok (.iload_n 1, 1)) rfl ?_
    obtain ⟨u8_, g9_, h⟩ := rv_b_e h
    refine re_irem (pc := 27) (by decide +kernel : decode cX3_draw 27 = .ok (.irem, 1)) (rv_nz_e g9_) ?_
    refine re_goto (pc := 28) 32 (by decide +kernel : decode cX3_draw 28 = .ok (.goto 4, 3)) (by decide) ?_
    cases h
    exact re_iret (fun ty hty => by cases hty; rfl) (by decide +kernel : decode cX3_draw 32 = .ok (.ireturn, 1))
theorem metX3_draw (n : Nat) (S : rvS) (a0 : Nat) (x1 : Int32) (r : Int32) (S' : rvS) (h : fnX3_draw n S a0 x1 = some (r, S')) : rv_Met yX3_draw mX3_draw 0 [.ref a0, .int x1] S (some (.int r)) S' := rv_Met.of ⟨by decide +kernel, rfl, (fun z => by first | rfl | cases z), rfl⟩ (Nat.le_of_ble_eq_true rfl) rfl (eX3_draw_in n S a0 x1 r S' h)
noncomputable def cX6_coinsOf_5 (n : Nat) (S : rvS) : Nat → Nat → Int32 → Int64 → Int32 → Option Int64
  | 0, _, _, _, _ => none
  | k + 1, a0, x1, x2, x4 =>
    (rv_gI S 5 a0 0).bind fun x1_ =>
    if x1_ ≤ x4 then (
      some x2)
    else (
      (rv_gR S 5 a0 3).bind fun a4_ =>
      (rv_aI S 0 a4_ x4).bind fun x6_ =>
      if x6_ = x1 then (
        rv_lt (x2 ||| ((1 : Int64) <<< (x4.toInt64 &&& 63))) fun x11_ =>
        rv_lt (x4 + (1)) fun x13_ =>
        cX6_coinsOf_5 n S k a0 x1 x11_ x13_)
      else (
        rv_lt (x4 + (1)) fun x9_ =>
        cX6_coinsOf_5 n S k a0 x1 x2 x9_))
set_option maxRecDepth 20000 in
set_option maxHeartbeats 4000000 in
theorem eX6_coinsOf_5 (n : Nat) (S : rvS) : ∀ (k : Nat) (a0 : Nat) (x1 : Int32) (x2 : Int64) (x4 : Int32) (r : Int64), cX6_coinsOf_5 n S k a0 x1 x2 x4 = some r → rv_Ev mX6_coinsOf 0 5 [(0, .ref a0), (1, .int x1), (2, .long x2), (4, .int x4)] [] S (some (.long r)) S := by
  intro k
  induction k with
  | zero => intro a0 x1 x2 x4 r h; exact absurd h (by simp [cX6_coinsOf_5])
  | succ k ih =>
    intro a0 x1 x2 x4 r h
    unfold cX6_coinsOf_5 at h
    refine re_iload (pc := 5) 3 (by decide +kernel : decode cX6_coinsOf 5 = .ok (.iload 4, 2)) rfl ?_
    refine re_aloadn (pc := 7) 0 (by decide +kernel : decode cX6_coinsOf 7 = .ok (.aload_n 0, 1)) rfl ?_
    obtain ⟨x1_, g2_, h⟩ := rv_b_e h
    refine re_gI (pc := 8) g2_ lfX6_25 rfl (by decide +kernel : decode cX6_coinsOf 8 = .ok (.getfield 25, 3)) ?_
    rcases rv_if_e h with ⟨g3_, h⟩ | ⟨g3_, h⟩
    · refine re_icmp_ge_t (pc := 11) 38 (by decide +kernel : decode cX6_coinsOf 11 = .ok (.if_icmp .ge 27, 3)) (by decide) g3_ ?_
      refine re_lloadn (pc := 38) 2 (by decide +kernel : decode cX6_coinsOf 38 = .ok (.lload_n 2, 1)) rfl ?_
      cases h
      exact re_lret (by decide +kernel : decode cX6_coinsOf 39 = .ok (.lreturn, 1))
    · refine re_icmp_ge_f (pc := 11) 38 (by decide +kernel : decode cX6_coinsOf 11 = .ok (.if_icmp .ge 27, 3)) (by decide) g3_ ?_
      refine re_aloadn (pc := 14) 0 (by decide +kernel : decode cX6_coinsOf 14 = .ok (.aload_n 0, 1)) rfl ?_
      obtain ⟨a4_, g5_, h⟩ := rv_b_e h
      refine re_gR (pc := 15) g5_ lfX6_19 rfl (by decide +kernel : decode cX6_coinsOf 15 = .ok (.getfield 19, 3)) ?_
      refine re_iload (pc := 18) 3 (by decide +kernel : decode cX6_coinsOf 18 = .ok (.iload 4, 2)) rfl ?_
      obtain ⟨x6_, g7_, h⟩ := rv_b_e h
      refine re_aI (pc := 20) g7_ (by decide +kernel : decode cX6_coinsOf 20 = .ok (.iaload, 1)) ?_
      refine re_iloadn (pc := 21) 1 (by decide +kernel : decode cX6_coinsOf 21 = .ok (.iload_n 1, 1)) rfl ?_
      rcases rv_if_e h with ⟨g8_, h⟩ | ⟨g8_, h⟩
      · refine re_icmp_ne_f (pc := 22) 32 (by decide +kernel : decode cX6_coinsOf 22 = .ok (.if_icmp .ne 10, 3)) (by decide) g8_ ?_
        refine re_lloadn (pc := 25) 2 (by decide +kernel : decode cX6_coinsOf 25 = .ok (.lload_n 2, 1)) rfl ?_
        refine re_lconst (pc := 26) (1 : Int64) (by decide +kernel : decode cX6_coinsOf 26 = .ok (.lconst 1, 1)) (by decide) ?_
        refine re_iload (pc := 27) 3 (by decide +kernel : decode cX6_coinsOf 27 = .ok (.iload 4, 2)) rfl ?_
        refine re_lshl (pc := 29) (by decide +kernel : decode cX6_coinsOf 29 = .ok (.lshl, 1)) ?_
        refine re_lor (pc := 30) (by decide +kernel : decode cX6_coinsOf 30 = .ok (.lor, 1)) ?_
        obtain ⟨x11_, g12_, h⟩ := rv_lt_e h
        refine re_nL (pc := 31) g12_ ?_
        refine re_lstoren (pc := 31) (lv1 := [(2, .long x11_), (0, .ref a0), (1, .int x1), (4, .int x4)]) (by decide +kernel : decode cX6_coinsOf 31 = .ok (.lstore_n 2, 1)) rfl (by decide) rfl ?_
        obtain ⟨x13_, g14_, h⟩ := rv_lt_e h
        refine re_iinc (pc := 32) 3 x13_ (lv1 := [(4, .int x13_), (2, .long x11_), (0, .ref a0), (1, .int x1)]) (by decide +kernel : decode cX6_coinsOf 32 = .ok (.iinc 4 1, 3)) rfl g14_ (by decide) rfl ?_
        refine re_goto (pc := 35) 5 (by decide +kernel : decode cX6_coinsOf 35 = .ok (.goto (-30), 3)) (by decide) ?_
        refine re_sub [2, 3, 1, 0] (lv1 := [(0, .ref a0), (1, .int x1), (2, .long x11_), (4, .int x13_)]) rfl ?_
        exact ih a0 x1 x11_ x13_ _ h
      · refine re_icmp_ne_t (pc := 22) 32 (by decide +kernel : decode cX6_coinsOf 22 = .ok (.if_icmp .ne 10, 3)) (by decide) g8_ ?_
        obtain ⟨x9_, g10_, h⟩ := rv_lt_e h
        refine re_iinc (pc := 32) 3 x9_ (lv1 := [(4, .int x9_), (0, .ref a0), (1, .int x1), (2, .long x2)]) (by decide +kernel : decode cX6_coinsOf 32 = .ok (.iinc 4 1, 3)) rfl g10_ (by decide) rfl ?_
        refine re_goto (pc := 35) 5 (by decide +kernel : decode cX6_coinsOf 35 = .ok (.goto (-30), 3)) (by decide) ?_
        refine re_sub [1, 2, 3, 0] (lv1 := [(0, .ref a0), (1, .int x1), (2, .long x2), (4, .int x9_)]) rfl ?_
        exact ih a0 x1 x2 x9_ _ h
noncomputable def fnX6_coinsOf (n : Nat) (S : rvS) (a0 : Nat) (x1 : Int32) : Option Int64 :=
  cX6_coinsOf_5 n S n a0 x1 (0 : Int64) (0 : Int32)
set_option maxRecDepth 20000 in
set_option maxHeartbeats 4000000 in
theorem eX6_coinsOf_in (n : Nat) (S : rvS) (a0 : Nat) (x1 : Int32) (r : Int64) (h : fnX6_coinsOf n S a0 x1 = some r) : rv_Ev mX6_coinsOf 0 0 [(0, .ref a0), (1, .int x1)] [] S (some (.long r)) S := by
  unfold fnX6_coinsOf at h
  refine re_lconst (pc := 0) (0 : Int64) (by decide +kernel : decode cX6_coinsOf 0 = .ok (.lconst 0, 1)) (by decide) ?_
  refine re_lstoren (pc := 1) (lv1 := [(2, .long (0 : Int64)), (0, .ref a0), (1, .int x1)]) (by decide +kernel : decode cX6_coinsOf 1 = .ok (.lstore_n 2, 1)) rfl (by decide) rfl ?_
  refine re_iconst (pc := 2) (0 : Int32) (by decide +kernel : decode cX6_coinsOf 2 = .ok (.iconst 0, 1)) (by decide) ?_
  refine re_istore (pc := 3) (lv1 := [(4, .int (0 : Int32)), (2, .long (0 : Int64)), (0, .ref a0), (1, .int x1)]) (by decide +kernel : decode cX6_coinsOf 3 = .ok (.istore 4, 2)) (by decide) rfl ?_
  refine re_sub [2, 3, 1, 0] (lv1 := [(0, .ref a0), (1, .int x1), (2, .long (0 : Int64)), (4, .int (0 : Int32))]) rfl ?_
  exact eX6_coinsOf_5 n S n a0 x1 (0 : Int64) (0 : Int32) _ h
theorem metX6_coinsOf (n : Nat) (S : rvS) (a0 : Nat) (x1 : Int32) (r : Int64) (h : fnX6_coinsOf n S a0 x1 = some r) : rv_Met yX6_coinsOf mX6_coinsOf 0 [.ref a0, .int x1] S (some (.long r)) S := rv_Met.of ⟨by decide +kernel, rfl, (fun z => by first | rfl | cases z), rfl⟩ (Nat.le_of_ble_eq_true rfl) rfl (eX6_coinsOf_in n S a0 x1 r h)
noncomputable def fnJ13_bitCount_95d88 (n : Nat) (S : rvS) (x0 : Int64) : Option Int32 :=
  rv_lt (x0 - (((x0.toUInt64 >>> ((1 : Int32).toInt64.toUInt64 &&& Int64.toUInt64 63)).toInt64) &&& (6148914691236517205 : Int64))) fun x1_ =>
  rv_lt ((x1_ &&& (3689348814741910323 : Int64)) + (((x1_.toUInt64 >>> ((2 : Int32).toInt64.toUInt64 &&& Int64.toUInt64 63)).toInt64) &&& (3689348814741910323 : Int64))) fun x3_ =>
  rv_lt ((x3_ + ((x3_.toUInt64 >>> ((4 : Int32).toInt64.toUInt64 &&& Int64.toUInt64 63)).toInt64)) &&& (1085102592571150095 : Int64)) fun x5_ =>
  rv_lt (x5_ + ((x5_.toUInt64 >>> ((8 : Int32).toInt64.toUInt64 &&& Int64.toUInt64 63)).toInt64)) fun x7_ =>
  rv_lt (x7_ + ((x7_.toUInt64 >>> ((16 : Int32).toInt64.toUInt64 &&& Int64.toUInt64 63)).toInt64)) fun x9_ =>
  rv_lt (x9_ + ((x9_.toUInt64 >>> ((32 : Int32).toInt64.toUInt64 &&& Int64.toUInt64 63)).toInt64)) fun x11_ =>
  some ((x11_.toInt32) &&& (127 : Int32))
set_option maxRecDepth 20000 in
set_option maxHeartbeats 4000000 in
theorem eJ13_bitCount_95d88_in (n : Nat) (S : rvS) (x0 : Int64) (r : Int32) (h : fnJ13_bitCount_95d88 n S x0 = some r) : rv_Ev mJ13_bitCount_95d88 0 0 [(0, .long x0)] [] S (some (.int r)) S := by
  unfold fnJ13_bitCount_95d88 at h
  refine re_lloadn (pc := 0) 0 (by decide +kernel : decode cJ13_bitCount_95d88 0 = .ok (.lload_n 0, 1)) rfl ?_
  refine re_lloadn (pc := 1) 0 (by decide +kernel : decode cJ13_bitCount_95d88 1 = .ok (.lload_n 0, 1)) rfl ?_
  refine re_iconst (pc := 2) (1 : Int32) (by decide +kernel : decode cJ13_bitCount_95d88 2 = .ok (.iconst 1, 1)) (by decide) ?_
  refine re_lushr (pc := 3) (by decide +kernel : decode cJ13_bitCount_95d88 3 = .ok (.lushr, 1)) ?_
  refine re_ldc2 (pc := 4) (v := 6148914691236517205) (rw4 75 (by decide +kernel) rfl) (by decide +kernel : decode cJ13_bitCount_95d88 4 = .ok (.ldc2_w 314, 3)) ?_
  refine re_land (pc := 7) (by decide +kernel : decode cJ13_bitCount_95d88 7 = .ok (.land, 1)) ?_
  refine re_lsub (pc := 8) (by decide +kernel : decode cJ13_bitCount_95d88 8 = .ok (.lsub, 1)) ?_
  obtain ⟨x1_, g2_, h⟩ := rv_lt_e h
  refine re_nL (pc := 9) g2_ ?_
  refine re_lstoren (pc := 9) (lv1 := [(0, .long x1_)]) (by decide +kernel : decode cJ13_bitCount_95d88 9 = .ok (.lstore_n 0, 1)) rfl (by decide) rfl ?_
  refine re_lloadn (pc := 10) 0 (by decide +kernel : decode cJ13_bitCount_95d88 10 = .ok (.lload_n 0, 1)) rfl ?_
  refine re_ldc2 (pc := 11) (v := 3689348814741910323) (rw4 76 (by decide +kernel) rfl) (by decide +kernel : decode cJ13_bitCount_95d88 11 = .ok (.ldc2_w 316, 3)) ?_
  refine re_land (pc := 14) (by decide +kernel : decode cJ13_bitCount_95d88 14 = .ok (.land, 1)) ?_
  refine re_lloadn (pc := 15) 0 (by decide +kernel : decode cJ13_bitCount_95d88 15 = .ok (.lload_n 0, 1)) rfl ?_
  refine re_iconst (pc := 16) (2 : Int32) (by decide +kernel : decode cJ13_bitCount_95d88 16 = .ok (.iconst 2, 1)) (by decide) ?_
  refine re_lushr (pc := 17) (by decide +kernel : decode cJ13_bitCount_95d88 17 = .ok (.lushr, 1)) ?_
  refine re_ldc2 (pc := 18) (v := 3689348814741910323) (rw4 76 (by decide +kernel) rfl) (by decide +kernel : decode cJ13_bitCount_95d88 18 = .ok (.ldc2_w 316, 3)) ?_
  refine re_land (pc := 21) (by decide +kernel : decode cJ13_bitCount_95d88 21 = .ok (.land, 1)) ?_
  refine re_ladd (pc := 22) (by decide +kernel : decode cJ13_bitCount_95d88 22 = .ok (.ladd, 1)) ?_
  obtain ⟨x3_, g4_, h⟩ := rv_lt_e h
  refine re_nL (pc := 23) g4_ ?_
  refine re_lstoren (pc := 23) (lv1 := [(0, .long x3_)]) (by decide +kernel : decode cJ13_bitCount_95d88 23 = .ok (.lstore_n 0, 1)) rfl (by decide) rfl ?_
  refine re_lloadn (pc := 24) 0 (by decide +kernel : decode cJ13_bitCount_95d88 24 = .ok (.lload_n 0, 1)) rfl ?_
  refine re_lloadn (pc := 25) 0 (by decide +kernel : decode cJ13_bitCount_95d88 25 = .ok (.lload_n 0, 1)) rfl ?_
  refine re_iconst (pc := 26) (4 : Int32) (by decide +kernel : decode cJ13_bitCount_95d88 26 = .ok (.iconst 4, 1)) (by decide) ?_
  refine re_lushr (pc := 27) (by decide +kernel : decode cJ13_bitCount_95d88 27 = .ok (.lushr, 1)) ?_
  refine re_ladd (pc := 28) (by decide +kernel : decode cJ13_bitCount_95d88 28 = .ok (.ladd, 1)) ?_
  refine re_ldc2 (pc := 29) (v := 1085102592571150095) (rw4 77 (by decide +kernel) rfl) (by decide +kernel : decode cJ13_bitCount_95d88 29 = .ok (.ldc2_w 318, 3)) ?_
  refine re_land (pc := 32) (by decide +kernel : decode cJ13_bitCount_95d88 32 = .ok (.land, 1)) ?_
  obtain ⟨x5_, g6_, h⟩ := rv_lt_e h
  refine re_nL (pc := 33) g6_ ?_
  refine re_lstoren (pc := 33) (lv1 := [(0, .long x5_)]) (by decide +kernel : decode cJ13_bitCount_95d88 33 = .ok (.lstore_n 0, 1)) rfl (by decide) rfl ?_
  refine re_lloadn (pc := 34) 0 (by decide +kernel : decode cJ13_bitCount_95d88 34 = .ok (.lload_n 0, 1)) rfl ?_
  refine re_lloadn (pc := 35) 0 (by decide +kernel : decode cJ13_bitCount_95d88 35 = .ok (.lload_n 0, 1)) rfl ?_
  refine re_bipush (pc := 36) (8 : Int32) (by decide +kernel : decode cJ13_bitCount_95d88 36 = .ok (.bipush 8, 2)) (by decide) ?_
  refine re_lushr (pc := 38) (by decide +kernel : decode cJ13_bitCount_95d88 38 = .ok (.lushr, 1)) ?_
  refine re_ladd (pc := 39) (by decide +kernel : decode cJ13_bitCount_95d88 39 = .ok (.ladd, 1)) ?_
  obtain ⟨x7_, g8_, h⟩ := rv_lt_e h
  refine re_nL (pc := 40) g8_ ?_
  refine re_lstoren (pc := 40) (lv1 := [(0, .long x7_)]) (by decide +kernel : decode cJ13_bitCount_95d88 40 = .ok (.lstore_n 0, 1)) rfl (by decide) rfl ?_
  refine re_lloadn (pc := 41) 0 (by decide +kernel : decode cJ13_bitCount_95d88 41 = .ok (.lload_n 0, 1)) rfl ?_
  refine re_lloadn (pc := 42) 0 (by decide +kernel : decode cJ13_bitCount_95d88 42 = .ok (.lload_n 0, 1)) rfl ?_
  refine re_bipush (pc := 43) (16 : Int32) (by decide +kernel : decode cJ13_bitCount_95d88 43 = .ok (.bipush 16, 2)) (by decide) ?_
  refine re_lushr (pc := 45) (by decide +kernel : decode cJ13_bitCount_95d88 45 = .ok (.lushr, 1)) ?_
  refine re_ladd (pc := 46) (by decide +kernel : decode cJ13_bitCount_95d88 46 = .ok (.ladd, 1)) ?_
  obtain ⟨x9_, g10_, h⟩ := rv_lt_e h
  refine re_nL (pc := 47) g10_ ?_
  refine re_lstoren (pc := 47) (lv1 := [(0, .long x9_)]) (by decide +kernel : decode cJ13_bitCount_95d88 47 = .ok (.lstore_n 0, 1)) rfl (by decide) rfl ?_
  refine re_lloadn (pc := 48) 0 (by decide +kernel : decode cJ13_bitCount_95d88 48 = .ok (.lload_n 0, 1)) rfl ?_
  refine re_lloadn (pc := 49) 0 (by decide +kernel : decode cJ13_bitCount_95d88 49 = .ok (.lload_n 0, 1)) rfl ?_
  refine re_bipush (pc := 50) (32 : Int32) (by decide +kernel : decode cJ13_bitCount_95d88 50 = .ok (.bipush 32, 2)) (by decide) ?_
  refine re_lushr (pc := 52) (by decide +kernel : decode cJ13_bitCount_95d88 52 = .ok (.lushr, 1)) ?_
  refine re_ladd (pc := 53) (by decide +kernel : decode cJ13_bitCount_95d88 53 = .ok (.ladd, 1)) ?_
  obtain ⟨x11_, g12_, h⟩ := rv_lt_e h
  refine re_nL (pc := 54) g12_ ?_
  refine re_lstoren (pc := 54) (lv1 := [(0, .long x11_)]) (by decide +kernel : decode cJ13_bitCount_95d88 54 = .ok (.lstore_n 0, 1)) rfl (by decide) rfl ?_
  refine re_lloadn (pc := 55) 0 (by decide +kernel : decode cJ13_bitCount_95d88 55 = .ok (.lload_n 0, 1)) rfl ?_
  refine re_l2i (pc := 56) (by decide +kernel : decode cJ13_bitCount_95d88 56 = .ok (.l2i, 1)) ?_
  refine re_bipush (pc := 57) (127 : Int32) (by decide +kernel : decode cJ13_bitCount_95d88 57 = .ok (.bipush 127, 2)) (by decide) ?_
  refine re_iand (pc := 59) (by decide +kernel : decode cJ13_bitCount_95d88 59 = .ok (.iand, 1)) ?_
  cases h
  exact re_iret (fun ty hty => by cases hty; rfl) (by decide +kernel : decode cJ13_bitCount_95d88 60 = .ok (.ireturn, 1))
theorem metJ13_bitCount_95d88 (n : Nat) (S : rvS) (x0 : Int64) (r : Int32) (h : fnJ13_bitCount_95d88 n S x0 = some r) : rv_Met yJ13_bitCount_95d88 mJ13_bitCount_95d88 0 [.long x0] S (some (.int r)) S := rv_Met.of ⟨by decide +kernel, rfl, (fun z => by first | rfl | cases z), rfl⟩ (Nat.le_of_ble_eq_true rfl) rfl (eJ13_bitCount_95d88_in n S x0 r h)
noncomputable def cX12_countOrOne_15 (n : Nat) (S : rvS) : Nat → Int64 → Int32 → Int32 → Int32 → Option Int32
  | 0, _, _, _, _ => none
  | k + 1, x0, x2, x3, x4 =>
    if (40 : Int32) ≤ x4 then (
      some (-1 : Int32))
    else (
      if (lg_cmp (((x0.toUInt64 >>> (x4.toInt64.toUInt64 &&& Int64.toUInt64 63)).toInt64) &&& (1 : Int64)) (0 : Int64)) = 0 then (
        rv_lt (x4 + (1)) fun x3_ =>
        cX12_countOrOne_15 n S k x0 x2 x3 x3_)
      else (
        if x3 = x2 then (
          some x4)
        else (
          rv_lt (x3 + (1)) fun x6_ =>
          rv_lt (x4 + (1)) fun x8_ =>
          cX12_countOrOne_15 n S k x0 x2 x6_ x8_)))
set_option maxRecDepth 20000 in
set_option maxHeartbeats 4000000 in
theorem eX12_countOrOne_15 (n : Nat) (S : rvS) : ∀ (k : Nat) (x0 : Int64) (x2 : Int32) (x3 : Int32) (x4 : Int32) (r : Int32), cX12_countOrOne_15 n S k x0 x2 x3 x4 = some r → rv_Ev mX12_countOrOne 1 15 [(0, .long x0), (2, .int x2), (3, .int x3), (4, .int x4)] [] S (some (.int r)) S := by
  intro k
  induction k with
  | zero => intro x0 x2 x3 x4 r h; exact absurd h (by simp [cX12_countOrOne_15])
  | succ k ih =>
    intro x0 x2 x3 x4 r h
    unfold cX12_countOrOne_15 at h
    refine re_iload (pc := 15) 3 (by decide +kernel : decode cX12_countOrOne 15 = .ok (.iload 4, 2)) rfl ?_
    refine re_bipush (pc := 17) (40 : Int32) (by decide +kernel : decode cX12_countOrOne 17 = .ok (.bipush 40, 2)) (by decide) ?_
    rcases rv_if_e h with ⟨g1_, h⟩ | ⟨g1_, h⟩
    · refine re_icmp_ge_t (pc := 19) 50 (by decide +kernel : decode cX12_countOrOne 19 = .ok (.if_icmp .ge 31, 3)) (by decide) g1_ ?_
      refine re_iconst (pc := 50) (-1 : Int32) (by decide +kernel : decode cX12_countOrOne 50 = .ok (.iconst (-1), 1)) (by decide) ?_
      cases h
      exact re_iret (fun ty hty => by cases hty; rfl) (by decide +kernel : decode cX12_countOrOne 51 = .ok (.ireturn, 1))
    · refine re_icmp_ge_f (pc := 19) 50 (by decide +kernel : decode cX12_countOrOne 19 = .ok (.if_icmp .ge 31, 3)) (by decide) g1_ ?_
      refine re_lloadn (pc := 22) 0 (by decide +kernel : decode cX12_countOrOne 22 = .ok (.lload_n 0, 1)) rfl ?_
      refine re_iload (pc := 23) 3 (by decide +kernel : decode cX12_countOrOne 23 = .ok (.iload 4, 2)) rfl ?_
      refine re_lushr (pc := 25) (by decide +kernel : decode cX12_countOrOne 25 = .ok (.lushr, 1)) ?_
      refine re_lconst (pc := 26) (1 : Int64) (by decide +kernel : decode cX12_countOrOne 26 = .ok (.lconst 1, 1)) (by decide) ?_
      refine re_land (pc := 27) (by decide +kernel : decode cX12_countOrOne 27 = .ok (.land, 1)) ?_
      refine re_lconst (pc := 28) (0 : Int64) (by decide +kernel : decode cX12_countOrOne 28 = .ok (.lconst 0, 1)) (by decide) ?_
      refine re_lcmp (pc := 29) (by decide +kernel : decode cX12_countOrOne 29 = .ok (.lcmp, 1)) ?_
      rcases rv_if_e h with ⟨g2_, h⟩ | ⟨g2_, h⟩
      · refine re_if_eq_t (pc := 30) 44 (by decide +kernel : decode cX12_countOrOne 30 = .ok (.ifCond .eq 14, 3)) (by decide) g2_ ?_
        obtain ⟨x3_, g4_, h⟩ := rv_lt_e h
        refine re_iinc (pc := 44) 3 x3_ (lv1 := [(4, .int x3_), (0, .long x0), (2, .int x2), (3, .int x3)]) (by decide +kernel : decode cX12_countOrOne 44 = .ok (.iinc 4 1, 3)) rfl g4_ (by decide) rfl ?_
        refine re_goto (pc := 47) 15 (by decide +kernel : decode cX12_countOrOne 47 = .ok (.goto (-32), 3)) (by decide) ?_
        refine re_sub [1, 2, 3, 0] (lv1 := [(0, .long x0), (2, .int x2), (3, .int x3), (4, .int x3_)]) rfl ?_
        exact ih x0 x2 x3 x3_ _ h
      · refine re_if_eq_f (pc := 30) 44 (by decide +kernel : decode cX12_countOrOne 30 = .ok (.ifCond .eq 14, 3)) (by decide) g2_ ?_
        refine re_iloadn (pc := 33) 2 (by decide +kernel : decode cX12_countOrOne 33 = .ok (.iload_n 3, 1)) rfl ?_
        refine re_iloadn (pc := 34) 1 (by decide +kernel : decode cX12_countOrOne 34 = .ok (.iload_n 2, 1)) rfl ?_
        rcases rv_if_e h with ⟨g5_, h⟩ | ⟨g5_, h⟩
        · refine re_icmp_ne_f (pc := 35) 41 (by decide +kernel : decode cX12_countOrOne 35 = .ok (.if_icmp .ne 6, 3)) (by decide) g5_ ?_
          refine re_iload (pc := 38) 3 (by decide +kernel : decode cX12_countOrOne 38 = .ok (.iload 4, 2)) rfl ?_
          cases h
          exact re_iret (fun ty hty => by cases hty; rfl) (by decide +kernel : decode cX12_countOrOne 40 = .ok (.ireturn, 1))
        · refine re_icmp_ne_t (pc := 35) 41 (by decide +kernel : decode cX12_countOrOne 35 = .ok (.if_icmp .ne 6, 3)) (by decide) g5_ ?_
          obtain ⟨x6_, g7_, h⟩ := rv_lt_e h
          refine re_iinc (pc := 41) 2 x6_ (lv1 := [(3, .int x6_), (0, .long x0), (2, .int x2), (4, .int x4)]) (by decide +kernel : decode cX12_countOrOne 41 = .ok (.iinc 3 1, 3)) rfl g7_ (by decide) rfl ?_
          obtain ⟨x8_, g9_, h⟩ := rv_lt_e h
          refine re_iinc (pc := 44) 3 x8_ (lv1 := [(4, .int x8_), (3, .int x6_), (0, .long x0), (2, .int x2)]) (by decide +kernel : decode cX12_countOrOne 44 = .ok (.iinc 4 1, 3)) rfl g9_ (by decide) rfl ?_
          refine re_goto (pc := 47) 15 (by decide +kernel : decode cX12_countOrOne 47 = .ok (.goto (-32), 3)) (by decide) ?_
          refine re_sub [2, 3, 1, 0] (lv1 := [(0, .long x0), (2, .int x2), (3, .int x6_), (4, .int x8_)]) rfl ?_
          exact ih x0 x2 x6_ x8_ _ h
noncomputable def fnX12_countOrOne (n : Nat) (S : rvS) (x0 : Int64) (x2 : Int32) : Option Int32 :=
  if x2 = (-1 : Int32) then (
    (fnJ13_bitCount_95d88 n S x0).bind fun x3_ =>
    some x3_)
  else (
    cX12_countOrOne_15 n S n x0 x2 (0 : Int32) (0 : Int32))
set_option maxRecDepth 20000 in
set_option maxHeartbeats 4000000 in
theorem eX12_countOrOne_in (n : Nat) (S : rvS) (x0 : Int64) (x2 : Int32) (r : Int32) (h : fnX12_countOrOne n S x0 x2 = some r) : rv_Ev mX12_countOrOne 1 0 [(0, .long x0), (2, .int x2)] [] S (some (.int r)) S := by
  unfold fnX12_countOrOne at h
  refine re_iloadn (pc := 0) 1 (by decide +kernel : decode cX12_countOrOne 0 = .ok (.iload_n 2, 1)) rfl ?_
  refine re_iconst (pc := 1) (-1 : Int32) (by decide +kernel : decode cX12_countOrOne 1 = .ok (.iconst (-1), 1)) (by decide) ?_
  rcases rv_if_e h with ⟨g1_, h⟩ | ⟨g1_, h⟩
  · refine re_icmp_ne_f (pc := 2) 10 (by decide +kernel : decode cX12_countOrOne 2 = .ok (.if_icmp .ne 8, 3)) (by decide) g1_ ?_
    refine re_lloadn (pc := 5) 0 (by decide +kernel : decode cX12_countOrOne 5 = .ok (.lload_n 0, 1)) rfl ?_
    obtain ⟨x3_, g4_, h⟩ := rv_b_e h
    have m2_ := metJ13_bitCount_95d88 n S x0 _ g4_
    refine re_cS (pc := 6) [.long x0] m2_ (rv_okl.k ⟨rfl, rfl⟩) (rv_up.rf _ _) (by decide) (Nat.le_of_ble_eq_true rfl) lSX12_148 rfl (by decide +kernel : decode cX12_countOrOne 6 = .ok (.invokestatic 148, 3)) ?_
    cases h
    exact re_iret (fun ty hty => by cases hty; rfl) (by decide +kernel : decode cX12_countOrOne 9 = .ok (.ireturn, 1))
  · refine re_icmp_ne_t (pc := 2) 10 (by decide +kernel : decode cX12_countOrOne 2 = .ok (.if_icmp .ne 8, 3)) (by decide) g1_ ?_
    refine re_iconst (pc := 10) (0 : Int32) (by decide +kernel : decode cX12_countOrOne 10 = .ok (.iconst 0, 1)) (by decide) ?_
    refine re_istoren (pc := 11) (lv1 := [(3, .int (0 : Int32)), (0, .long x0), (2, .int x2)]) (by decide +kernel : decode cX12_countOrOne 11 = .ok (.istore_n 3, 1)) rfl (by decide) rfl ?_
    refine re_iconst (pc := 12) (0 : Int32) (by decide +kernel : decode cX12_countOrOne 12 = .ok (.iconst 0, 1)) (by decide) ?_
    refine re_istore (pc := 13) (lv1 := [(4, .int (0 : Int32)), (3, .int (0 : Int32)), (0, .long x0), (2, .int x2)]) (by decide +kernel : decode cX12_countOrOne 13 = .ok (.istore 4, 2)) (by decide) rfl ?_
    refine re_sub [2, 3, 1, 0] (lv1 := [(0, .long x0), (2, .int x2), (3, .int (0 : Int32)), (4, .int (0 : Int32))]) rfl ?_
    exact eX12_countOrOne_15 n S n x0 x2 (0 : Int32) (0 : Int32) _ h
theorem metX12_countOrOne (n : Nat) (S : rvS) (x0 : Int64) (x2 : Int32) (r : Int32) (h : fnX12_countOrOne n S x0 x2 = some r) : rv_Met yX12_countOrOne mX12_countOrOne 1 [.long x0, .int x2] S (some (.int r)) S := rv_Met.of ⟨by decide +kernel, rfl, (fun z => by first | rfl | cases z), rfl⟩ (Nat.le_of_ble_eq_true rfl) rfl (eX12_countOrOne_in n S x0 x2 r h)
noncomputable def fnX9_whyNot (n : Nat) (S : rvS) (a0 : Nat) (x1 : Int32) (x2 : Int32) : Option Int32 :=
  (rv_gR S 8 a0 1).bind fun a1_ =>
  (rv_ck S 5 a1_).bind fun u3_ =>
  (fnX6_has n S a1_ x1).bind fun x6_ =>
  if x6_ = 0 then (
    some (-1 : Int32))
  else (
    (rv_gR S 8 a0 0).bind fun a9_ =>
    (rv_gR S 8 a0 1).bind fun a11_ =>
    (rv_gR S 5 a11_ 3).bind fun a13_ =>
    (rv_aI S 0 a13_ x1).bind fun x15_ =>
    (rv_gR S 8 a0 1).bind fun a17_ =>
    (rv_gR S 5 a17_ 4).bind fun a19_ =>
    (rv_aI S 0 a19_ x1).bind fun x21_ =>
    (rv_ck S 0 a9_).bind fun u23_ =>
    (fnX1_whyNot n S a9_ x15_ x21_ x2).bind fun x26_ =>
    some x26_)
set_option maxRecDepth 20000 in
set_option maxHeartbeats 4000000 in
theorem eX9_whyNot_in (n : Nat) (S : rvS) (a0 : Nat) (x1 : Int32) (x2 : Int32) (r : Int32) (h : fnX9_whyNot n S a0 x1 x2 = some r) : rv_Ev mX9_whyNot 3 0 [(0, .ref a0), (1, .int x1), (2, .int x2)] [] S (some (.int r)) S := by
  unfold fnX9_whyNot at h
  refine re_aloadn (pc := 0) 0 (by decide +kernel : decode cX9_whyNot 0 = .ok (.aload_n 0, 1)) rfl ?_
  obtain ⟨a1_, g2_, h⟩ := rv_b_e h
  refine re_gR (pc := 1) g2_ lfX9_21 rfl (by decide +kernel : decode cX9_whyNot 1 = .ok (.getfield 21, 3)) ?_
  refine re_iloadn (pc := 4) 1 (by decide +kernel : decode cX9_whyNot 4 = .ok (.iload_n 1, 1)) rfl ?_
  obtain ⟨u3_, g4_, h⟩ := rv_b_e h
  obtain ⟨x6_, g7_, h⟩ := rv_b_e h
  have m5_ := metX6_has n S a1_ x1 _ g7_
  refine re_cV (pc := 5) [.int x1] m5_ (rv_okl.k ⟨rfl, rfl⟩) (rv_up.rf _ _) (by decide) (rv_ck_e g4_) ⟨by decide, rfl⟩ (Nat.le_of_ble_eq_true rfl) lVX9_72 rfl (by decide +kernel : decode cX9_whyNot 5 = .ok (.invokevirtual 72, 3)) ?_
  rcases rv_if_e h with ⟨g8_, h⟩ | ⟨g8_, h⟩
  · refine re_if_eq_t (pc := 8) 40 (by decide +kernel : decode cX9_whyNot 8 = .ok (.ifCond .eq 32, 3)) (by decide) g8_ ?_
    refine re_iconst (pc := 40) (-1 : Int32) (by decide +kernel : decode cX9_whyNot 40 = .ok (.iconst (-1), 1)) (by decide) ?_
    cases h
    exact re_iret (fun ty hty => by cases hty; rfl) (by decide +kernel : decode cX9_whyNot 41 = .ok (.ireturn, 1))
  · refine re_if_eq_f (pc := 8) 40 (by decide +kernel : decode cX9_whyNot 8 = .ok (.ifCond .eq 32, 3)) (by decide) g8_ ?_
    refine re_aloadn (pc := 11) 0 (by decide +kernel : decode cX9_whyNot 11 = .ok (.aload_n 0, 1)) rfl ?_
    obtain ⟨a9_, g10_, h⟩ := rv_b_e h
    refine re_gR (pc := 12) g10_ lfX9_12 rfl (by decide +kernel : decode cX9_whyNot 12 = .ok (.getfield 12, 3)) ?_
    refine re_aloadn (pc := 15) 0 (by decide +kernel : decode cX9_whyNot 15 = .ok (.aload_n 0, 1)) rfl ?_
    obtain ⟨a11_, g12_, h⟩ := rv_b_e h
    refine re_gR (pc := 16) g12_ lfX9_21 rfl (by decide +kernel : decode cX9_whyNot 16 = .ok (.getfield 21, 3)) ?_
    obtain ⟨a13_, g14_, h⟩ := rv_b_e h
    refine re_gR (pc := 19) g14_ lfX9_76 rfl (by decide +kernel : decode cX9_whyNot 19 = .ok (.getfield 76, 3)) ?_
    refine re_iloadn (pc := 22) 1 (by decide +kernel : decode cX9_whyNot 22 = .ok (.iload_n 1, 1)) rfl ?_
    obtain ⟨x15_, g16_, h⟩ := rv_b_e h
    refine re_aI (pc := 23) g16_ (by decide +kernel : decode cX9_whyNot 23 = .ok (.iaload, 1)) ?_
    refine re_aloadn (pc := 24) 0 (by decide +kernel : decode cX9_whyNot 24 = .ok (.aload_n 0, 1)) rfl ?_
    obtain ⟨a17_, g18_, h⟩ := rv_b_e h
    refine re_gR (pc := 25) g18_ lfX9_21 rfl (by decide +kernel : decode cX9_whyNot 25 = .ok (.getfield 21, 3)) ?_
    obtain ⟨a19_, g20_, h⟩ := rv_b_e h
    refine re_gR (pc := 28) g20_ lfX9_79 rfl (by decide +kernel : decode cX9_whyNot 28 = .ok (.getfield 79, 3)) ?_
    refine re_iloadn (pc := 31) 1 (by decide +kernel : decode cX9_whyNot 31 = .ok (.iload_n 1, 1)) rfl ?_
    obtain ⟨x21_, g22_, h⟩ := rv_b_e h
    refine re_aI (pc := 32) g22_ (by decide +kernel : decode cX9_whyNot 32 = .ok (.iaload, 1)) ?_
    refine re_iloadn (pc := 33) 2 (by decide +kernel : decode cX9_whyNot 33 = .ok (.iload_n 2, 1)) rfl ?_
    obtain ⟨u23_, g24_, h⟩ := rv_b_e h
    obtain ⟨x26_, g27_, h⟩ := rv_b_e h
    have m25_ := metX1_whyNot n S a9_ x15_ x21_ x2 _ g27_
    refine re_cV (pc := 34) [.int x15_, .int x21_, .int x2] m25_ (rv_okl.k ⟨rfl, rfl⟩) (rv_up.rf _ _) (by decide) (rv_ck_e g24_) ⟨by decide, rfl⟩ (Nat.le_of_ble_eq_true rfl) lVX9_86 rfl (by decide +kernel : decode cX9_whyNot 34 = .ok (.invokevirtual 86, 3)) ?_
    refine re_goto (pc := 37) 41 (by decide +kernel : decode cX9_whyNot 37 = .ok (.goto 4, 3)) (by decide) ?_
    cases h
    exact re_iret (fun ty hty => by cases hty; rfl) (by decide +kernel : decode cX9_whyNot 41 = .ok (.ireturn, 1))
theorem metX9_whyNot (n : Nat) (S : rvS) (a0 : Nat) (x1 : Int32) (x2 : Int32) (r : Int32) (h : fnX9_whyNot n S a0 x1 x2 = some r) : rv_Met yX9_whyNot mX9_whyNot 3 [.ref a0, .int x1, .int x2] S (some (.int r)) S := rv_Met.of ⟨by decide +kernel, rfl, (fun z => by first | rfl | cases z), rfl⟩ (Nat.le_of_ble_eq_true rfl) rfl (eX9_whyNot_in n S a0 x1 x2 r h)
noncomputable def fnX6_move (n : Nat) (S : rvS) (a0 : Nat) (x1 : Int32) (x2 : Int32) : Option rvS :=
  (rv_ck S 5 a0).bind fun u1_ =>
  (fnX6_has n S a0 x1).bind fun x4_ =>
  if x4_ = 0 then (
    some S)
  else (
    (rv_gR S 5 a0 4).bind fun a7_ =>
    (rv_gR S 5 a0 3).bind fun a9_ =>
    (rv_aI S 0 a9_ x1).bind fun x11_ =>
    (rv_gR S 5 a0 4).bind fun a13_ =>
    (rv_aI S 0 a13_ x1).bind fun x15_ =>
    (rv_ck S 5 a0).bind fun u17_ =>
    (fnX6_rimAfter n S a0 x11_ x15_).bind fun x20_ =>
    (rv_uI S a7_ x1 x20_).bind fun S22_ =>
    (rv_gR S22_ 5 a0 3).bind fun a24_ =>
    (rv_uI S22_ a24_ x1 x2).bind fun S26_ =>
    some S26_)
set_option maxRecDepth 20000 in
set_option maxHeartbeats 4000000 in
theorem eX6_move_in (n : Nat) (S : rvS) (a0 : Nat) (x1 : Int32) (x2 : Int32) (S' : rvS) (h : fnX6_move n S a0 x1 x2 = some S') : rv_Ev mX6_move 1 0 [(0, .ref a0), (1, .int x1), (2, .int x2)] [] S none S' := by
  unfold fnX6_move at h
  refine re_aloadn (pc := 0) 0 (by decide +kernel : decode cX6_move 0 = .ok (.aload_n 0, 1)) rfl ?_
  refine re_iloadn (pc := 1) 1 (by decide +kernel : decode cX6_move 1 = .ok (.iload_n 1, 1)) rfl ?_
  obtain ⟨u1_, g2_, h⟩ := rv_b_e h
  obtain ⟨x4_, g5_, h⟩ := rv_b_e h
  have m3_ := metX6_has n S a0 x1 _ g5_
  refine re_cV (pc := 2) [.int x1] m3_ (rv_okl.k ⟨rfl, rfl⟩) (rv_up.rf _ _) (by decide) (rv_ck_e g2_) ⟨by decide, rfl⟩ (Nat.le_of_ble_eq_true rfl) lVX6_28 rfl (by decide +kernel : decode cX6_move 2 = .ok (.invokevirtual 28, 3)) ?_
  rcases rv_if_e h with ⟨g6_, h⟩ | ⟨g6_, h⟩
  · refine re_if_eq_t (pc := 5) 37 (by decide +kernel : decode cX6_move 5 = .ok (.ifCond .eq 32, 3)) (by decide) g6_ ?_
    cases h
    exact re_vret (by decide +kernel : decode cX6_move 37 = .ok (.return_, 1))
  · refine re_if_eq_f (pc := 5) 37 (by decide +kernel : decode cX6_move 5 = .ok (.ifCond .eq 32, 3)) (by decide) g6_ ?_
    refine re_aloadn (pc := 8) 0 (by decide +kernel : decode cX6_move 8 = .ok (.aload_n 0, 1)) rfl ?_
    obtain ⟨a7_, g8_, h⟩ := rv_b_e h
    refine re_gR (pc := 9) g8_ lfX6_22 rfl (by decide +kernel : decode cX6_move 9 = .ok (.getfield 22, 3)) ?_
    refine re_iloadn (pc := 12) 1 (by decide +kernel : decode cX6_move 12 = .ok (.iload_n 1, 1)) rfl ?_
    refine re_aloadn (pc := 13) 0 (by decide +kernel : decode cX6_move 13 = .ok (.aload_n 0, 1)) rfl ?_
    refine re_aloadn (pc := 14) 0 (by decide +kernel : decode cX6_move 14 = .ok (.aload_n 0, 1)) rfl ?_
    obtain ⟨a9_, g10_, h⟩ := rv_b_e h
    refine re_gR (pc := 15) g10_ lfX6_19 rfl (by decide +kernel : decode cX6_move 15 = .ok (.getfield 19, 3)) ?_
    refine re_iloadn (pc := 18) 1 (by decide +kernel : decode cX6_move 18 = .ok (.iload_n 1, 1)) rfl ?_
    obtain ⟨x11_, g12_, h⟩ := rv_b_e h
    refine re_aI (pc := 19) g12_ (by decide +kernel : decode cX6_move 19 = .ok (.iaload, 1)) ?_
    refine re_aloadn (pc := 20) 0 (by decide +kernel : decode cX6_move 20 = .ok (.aload_n 0, 1)) rfl ?_
    obtain ⟨a13_, g14_, h⟩ := rv_b_e h
    refine re_gR (pc := 21) g14_ lfX6_22 rfl (by decide +kernel : decode cX6_move 21 = .ok (.getfield 22, 3)) ?_
    refine re_iloadn (pc := 24) 1 (by decide +kernel : decode cX6_move 24 = .ok (.iload_n 1, 1)) rfl ?_
    obtain ⟨x15_, g16_, h⟩ := rv_b_e h
    refine re_aI (pc := 25) g16_ (by decide +kernel : decode cX6_move 25 = .ok (.iaload, 1)) ?_
    obtain ⟨u17_, g18_, h⟩ := rv_b_e h
    obtain ⟨x20_, g21_, h⟩ := rv_b_e h
    have m19_ := metX6_rimAfter n S a0 x11_ x15_ _ g21_
    refine re_cV (pc := 26) [.int x11_, .int x15_] m19_ (rv_okl.k ⟨rfl, rfl⟩) (rv_up.rf _ _) (by decide) (rv_ck_e g18_) ⟨by decide, rfl⟩ (Nat.le_of_ble_eq_true rfl) lVX6_39 rfl (by decide +kernel : decode cX6_move 26 = .ok (.invokevirtual 39, 3)) ?_
    obtain ⟨S22_, g23_, h⟩ := rv_b_e h
    refine re_uI (pc := 29) g23_ (by decide +kernel : decode cX6_move 29 = .ok (.iastore, 1)) ?_
    refine re_aloadn (pc := 30) 0 (by decide +kernel : decode cX6_move 30 = .ok (.aload_n 0, 1)) rfl ?_
    obtain ⟨a24_, g25_, h⟩ := rv_b_e h
    refine re_gR (pc := 31) g25_ lfX6_19 rfl (by decide +kernel : decode cX6_move 31 = .ok (.getfield 19, 3)) ?_
    refine re_iloadn (pc := 34) 1 (by decide +kernel : decode cX6_move 34 = .ok (.iload_n 1, 1)) rfl ?_
    refine re_iloadn (pc := 35) 2 (by decide +kernel : decode cX6_move 35 = .ok (.iload_n 2, 1)) rfl ?_
    obtain ⟨S26_, g27_, h⟩ := rv_b_e h
    refine re_uI (pc := 36) g27_ (by decide +kernel : decode cX6_move 36 = .ok (.iastore, 1)) ?_
    cases h
    exact re_vret (by decide +kernel : decode cX6_move 37 = .ok (.return_, 1))
theorem metX6_move (n : Nat) (S : rvS) (a0 : Nat) (x1 : Int32) (x2 : Int32) (S' : rvS) (h : fnX6_move n S a0 x1 x2 = some S') : rv_Met yX6_move mX6_move 1 [.ref a0, .int x1, .int x2] S none S' := rv_Met.of ⟨by decide +kernel, rfl, (fun z => by first | rfl | cases z), rfl⟩ (Nat.le_of_ble_eq_true rfl) rfl (eX6_move_in n S a0 x1 x2 S' h)
noncomputable def fnX3_drawPayment (n : Nat) (S : rvS) (a0 : Nat) (a1 : Nat) : Option (Int32 × rvS) :=
  (rv_gR S 8 a1 0).bind fun a1_ =>
  (rv_gI S 0 a1_ 0).bind fun x3_ =>
  (rv_ck S 2 a0).bind fun u5_ =>
  rv_bp (fnX3_draw n S a0 x3_) fun x8_ S9_ =>
  (rv_gR S9_ 8 a1 0).bind fun a12_ =>
  (rv_gI S9_ 0 a12_ 0).bind fun x14_ =>
  (rv_ck S9_ 2 a0).bind fun u16_ =>
  rv_bp (fnX3_draw n S9_ a0 x14_) fun x19_ S20_ =>
  (rv_gR S20_ 8 a1 1).bind fun a23_ =>
  (rv_ck S20_ 5 a23_).bind fun u25_ =>
  (fnX6_coinsOf n S20_ a23_ x8_).bind fun x28_ =>
  if (lg_cmp x28_ (0 : Int64)) = 0 then (
    some (x8_, S20_))
  else (
    (fnJ13_bitCount_95d88 n S20_ x28_).bind fun x32_ =>
    (rv_ck S20_ 2 a0).bind fun u34_ =>
    rv_bp (fnX3_draw n S20_ a0 x32_) fun x37_ S38_ =>
    (fnX12_countOrOne n S38_ x28_ x37_).bind fun x42_ =>
    (rv_ck S38_ 8 a1).bind fun u44_ =>
    (fnX9_whyNot n S38_ a1 x42_ x19_).bind fun x47_ =>
    if x47_ = 0 then (
      (rv_gR S38_ 8 a1 1).bind fun a54_ =>
      (rv_ck S38_ 5 a54_).bind fun u56_ =>
      (fnX6_move n S38_ a54_ x42_ x19_).bind fun S59_ =>
      (rv_gI S59_ 2 a0 1).bind fun x62_ =>
      (rv_pI S59_ 2 a0 1 (x62_ + (1 : Int32))).bind fun S64_ =>
      some (x8_, S64_))
    else (
      (rv_gI S38_ 2 a0 2).bind fun x50_ =>
      (rv_pI S38_ 2 a0 2 (x50_ + (1 : Int32))).bind fun S52_ =>
      some (x8_, S52_)))
set_option maxRecDepth 20000 in
set_option maxHeartbeats 4000000 in
theorem eX3_drawPayment_in (n : Nat) (S : rvS) (a0 : Nat) (a1 : Nat) (r : Int32) (S' : rvS) (h : fnX3_drawPayment n S a0 a1 = some (r, S')) : rv_Ev mX3_drawPayment 4 0 [(0, .ref a0), (1, .ref a1)] [] S (some (.int r)) S' := by
  unfold fnX3_drawPayment at h
  refine re_aloadn (pc := 0) 0 (by decide +kernel : decode cX3_drawPayment 0 = .ok (.aload_n 0, 1)) rfl ?_
  refine re_aloadn (pc := 1) 1 (by decide +kernel : decode cX3_drawPayment 1 = .ok (.aload_n 1, 1)) rfl ?_
  obtain ⟨a1_, g2_, h⟩ := rv_b_e h
  refine re_gR (pc := 2) g2_ lfX3_30 rfl (by decide +kernel : decode cX3_drawPayment 2 = .ok (.getfield 30, 3)) ?_
  obtain ⟨x3_, g4_, h⟩ := rv_b_e h
  refine re_gI (pc := 5) g4_ lfX3_40 rfl (by decide +kernel : decode cX3_drawPayment 5 = .ok (.getfield 40, 3)) ?_
  obtain ⟨u5_, g6_, h⟩ := rv_b_e h
  obtain ⟨x8_, S9_, g10_, h⟩ := rv_bp_e h
  have m7_ := metX3_draw n S a0 x3_ _ _ g10_
  have z11_ : rv_same S S9_ := m7_.sh rfl
  refine re_cV (pc := 8) [.int x3_] m7_ (rv_okl.k z11_) (rv_up.sh z11_) (by decide) (rv_ck_e g6_) ⟨by decide, rfl⟩ (Nat.le_of_ble_eq_true rfl) lVX3_36 rfl (by decide +kernel : decode cX3_drawPayment 8 = .ok (.invokevirtual 36, 3)) ?_
  refine re_istoren (pc := 11) (lv1 := [(2, .int x8_), (0, .ref a0), (1, .ref a1)]) (by decide +kernel : decode cX3_drawPayment 11 = .ok (.istore_n 2, 1)) rfl (by decide) rfl ?_
  refine re_aloadn (pc := 12) 1 (by decide +kernel : decode cX3_drawPayment 12 = .ok (.aload_n 0, 1)) rfl ?_
  refine re_aloadn (pc := 13) 2 (by decide +kernel : decode cX3_drawPayment 13 = .ok (.aload_n 1, 1)) rfl ?_
  obtain ⟨a12_, g13_, h⟩ := rv_b_e h
  refine re_gR (pc := 14) g13_ lfX3_30 rfl (by decide +kernel : decode cX3_drawPayment 14 = .ok (.getfield 30, 3)) ?_
  obtain ⟨x14_, g15_, h⟩ := rv_b_e h
  refine re_gI (pc := 17) g15_ lfX3_40 rfl (by decide +kernel : decode cX3_drawPayment 17 = .ok (.getfield 40, 3)) ?_
  obtain ⟨u16_, g17_, h⟩ := rv_b_e h
  obtain ⟨x19_, S20_, g21_, h⟩ := rv_bp_e h
  have m18_ := metX3_draw n S9_ a0 x14_ _ _ g21_
  have z22_ : rv_same S9_ S20_ := m18_.sh rfl
  refine re_cV (pc := 20) [.int x14_] m18_ (rv_okl.k z22_) (rv_up.sh z22_) (by decide) (rv_ck_e g17_) ⟨by decide, rfl⟩ (Nat.le_of_ble_eq_true rfl) lVX3_36 rfl (by decide +kernel : decode cX3_drawPayment 20 = .ok (.invokevirtual 36, 3)) ?_
  refine re_istoren (pc := 23) (lv1 := [(3, .int x19_), (2, .int x8_), (0, .ref a0), (1, .ref a1)]) (by decide +kernel : decode cX3_drawPayment 23 = .ok (.istore_n 3, 1)) rfl (by decide) rfl ?_
  refine re_aloadn (pc := 24) 3 (by decide +kernel : decode cX3_drawPayment 24 = .ok (.aload_n 1, 1)) rfl ?_
  obtain ⟨a23_, g24_, h⟩ := rv_b_e h
  refine re_gR (pc := 25) g24_ lfX3_61 rfl (by decide +kernel : decode cX3_drawPayment 25 = .ok (.getfield 61, 3)) ?_
  refine re_iloadn (pc := 28) 1 (by decide +kernel : decode cX3_drawPayment 28 = .ok (.iload_n 2, 1)) rfl ?_
  obtain ⟨u25_, g26_, h⟩ := rv_b_e h
  obtain ⟨x28_, g29_, h⟩ := rv_b_e h
  have m27_ := metX6_coinsOf n S20_ a23_ x8_ _ g29_
  refine re_cV (pc := 29) [.int x8_] m27_ (rv_okl.k ⟨rfl, rfl⟩) (rv_up.rf _ _) (by decide) (rv_ck_e g26_) ⟨by decide, rfl⟩ (Nat.le_of_ble_eq_true rfl) lVX3_65 rfl (by decide +kernel : decode cX3_drawPayment 29 = .ok (.invokevirtual 65, 3)) ?_
  refine re_lstore (pc := 32) (lv1 := [(4, .long x28_), (3, .int x19_), (2, .int x8_), (0, .ref a0), (1, .ref a1)]) (by decide +kernel : decode cX3_drawPayment 32 = .ok (.lstore 4, 2)) (by decide) rfl ?_
  refine re_lload (pc := 34) 0 (by decide +kernel : decode cX3_drawPayment 34 = .ok (.lload 4, 2)) rfl ?_
  refine re_lconst (pc := 36) (0 : Int64) (by decide +kernel : decode cX3_drawPayment 36 = .ok (.lconst 0, 1)) (by decide) ?_
  refine re_lcmp (pc := 37) (by decide +kernel : decode cX3_drawPayment 37 = .ok (.lcmp, 1)) ?_
  rcases rv_if_e h with ⟨g30_, h⟩ | ⟨g30_, h⟩
  · refine re_if_eq_t (pc := 38) 100 (by decide +kernel : decode cX3_drawPayment 38 = .ok (.ifCond .eq 62, 3)) (by decide) g30_ ?_
    refine re_iloadn (pc := 100) 2 (by decide +kernel : decode cX3_drawPayment 100 = .ok (.iload_n 2, 1)) rfl ?_
    cases h
    exact re_iret (fun ty hty => by cases hty; rfl) (by decide +kernel : decode cX3_drawPayment 101 = .ok (.ireturn, 1))
  · refine re_if_eq_f (pc := 38) 100 (by decide +kernel : decode cX3_drawPayment 38 = .ok (.ifCond .eq 62, 3)) (by decide) g30_ ?_
    refine re_lload (pc := 41) 0 (by decide +kernel : decode cX3_drawPayment 41 = .ok (.lload 4, 2)) rfl ?_
    refine re_aloadn (pc := 43) 3 (by decide +kernel : decode cX3_drawPayment 43 = .ok (.aload_n 0, 1)) rfl ?_
    refine re_lload (pc := 44) 0 (by decide +kernel : decode cX3_drawPayment 44 = .ok (.lload 4, 2)) rfl ?_
    obtain ⟨x32_, g33_, h⟩ := rv_b_e h
    have m31_ := metJ13_bitCount_95d88 n S20_ x28_ _ g33_
    refine re_cS (pc := 46) [.long x28_] m31_ (rv_okl.k ⟨rfl, rfl⟩) (rv_up.rf _ _) (by decide) (Nat.le_of_ble_eq_true rfl) lSX3_71 rfl (by decide +kernel : decode cX3_drawPayment 46 = .ok (.invokestatic 71, 3)) ?_
    obtain ⟨u34_, g35_, h⟩ := rv_b_e h
    obtain ⟨x37_, S38_, g39_, h⟩ := rv_bp_e h
    have m36_ := metX3_draw n S20_ a0 x32_ _ _ g39_
    have z40_ : rv_same S20_ S38_ := m36_.sh rfl
    refine re_cV (pc := 49) [.int x32_] m36_ (rv_okl.k z40_) (rv_up.sh z40_) (by decide) (rv_ck_e g35_) ⟨by decide, rfl⟩ (Nat.le_of_ble_eq_true rfl) lVX3_36 rfl (by decide +kernel : decode cX3_drawPayment 49 = .ok (.invokevirtual 36, 3)) ?_
    obtain ⟨x42_, g43_, h⟩ := rv_b_e h
    have m41_ := metX12_countOrOne n S38_ x28_ x37_ _ g43_
    refine re_cS (pc := 52) [.long x28_, .int x37_] m41_ (rv_okl.k ⟨rfl, rfl⟩) (rv_up.rf _ _) (by decide) (Nat.le_of_ble_eq_true rfl) lSX3_77 rfl (by decide +kernel : decode cX3_drawPayment 52 = .ok (.invokestatic 77, 3)) ?_
    refine re_istore (pc := 55) (lv1 := [(6, .int x42_), (4, .long x28_), (3, .int x19_), (2, .int x8_), (0, .ref a0), (1, .ref a1)]) (by decide +kernel : decode cX3_drawPayment 55 = .ok (.istore 6, 2)) (by decide) rfl ?_
    refine re_aloadn (pc := 57) 5 (by decide +kernel : decode cX3_drawPayment 57 = .ok (.aload_n 1, 1)) rfl ?_
    refine re_iload (pc := 58) 0 (by decide +kernel : decode cX3_drawPayment 58 = .ok (.iload 6, 2)) rfl ?_
    refine re_iloadn (pc := 60) 2 (by decide +kernel : decode cX3_drawPayment 60 = .ok (.iload_n 3, 1)) rfl ?_
    obtain ⟨u44_, g45_, h⟩ := rv_b_e h
    obtain ⟨x47_, g48_, h⟩ := rv_b_e h
    have m46_ := metX9_whyNot n S38_ a1 x42_ x19_ _ g48_
    refine re_cV (pc := 61) [.int x42_, .int x19_] m46_ (rv_okl.k ⟨rfl, rfl⟩) (rv_up.rf _ _) (by decide) (rv_ck_e g45_) ⟨by decide, rfl⟩ (Nat.le_of_ble_eq_true rfl) lVX3_82 rfl (by decide +kernel : decode cX3_drawPayment 61 = .ok (.invokevirtual 82, 3)) ?_
    rcases rv_if_e h with ⟨g49_, h⟩ | ⟨g49_, h⟩
    · refine re_if_ne_f (pc := 64) 90 (by decide +kernel : decode cX3_drawPayment 64 = .ok (.ifCond .ne 26, 3)) (by decide) g49_ ?_
      refine re_aloadn (pc := 67) 5 (by decide +kernel : decode cX3_drawPayment 67 = .ok (.aload_n 1, 1)) rfl ?_
      obtain ⟨a54_, g55_, h⟩ := rv_b_e h
      refine re_gR (pc := 68) g55_ lfX3_61 rfl (by decide +kernel : decode cX3_drawPayment 68 = .ok (.getfield 61, 3)) ?_
      refine re_iload (pc := 71) 0 (by decide +kernel : decode cX3_drawPayment 71 = .ok (.iload 6, 2)) rfl ?_
      refine re_iloadn (pc := 73) 2 (by decide +kernel : decode cX3_drawPayment 73 = .ok (.iload_n 3, 1)) rfl ?_
      obtain ⟨u56_, g57_, h⟩ := rv_b_e h
      obtain ⟨S59_, g60_, h⟩ := rv_b_e h
      have m58_ := metX6_move n S38_ a54_ x42_ x19_ _ g60_
      have z61_ : rv_same S38_ S59_ := m58_.sh rfl
      refine re_cV (pc := 74) [.int x42_, .int x19_] m58_ (rv_okl.k z61_) (rv_up.sh z61_) (by decide) (rv_ck_e g57_) ⟨by decide, rfl⟩ (Nat.le_of_ble_eq_true rfl) lVX3_86 rfl (by decide +kernel : decode cX3_drawPayment 74 = .ok (.invokevirtual 86, 3)) ?_
      refine re_aloadn (pc := 77) 4 (by decide +kernel : decode cX3_drawPayment 77 = .ok (.aload_n 0, 1)) rfl ?_
      refine re_dup (pc := 78) (by decide +kernel : decode cX3_drawPayment 78 = .ok (.dup, 1)) rfl ?_
      obtain ⟨x62_, g63_, h⟩ := rv_b_e h
      refine re_gI (pc := 79) g63_ lfX3_13 rfl (by decide +kernel : decode cX3_drawPayment 79 = .ok (.getfield 13, 3)) ?_
      refine re_iconst (pc := 82) (1 : Int32) (by decide +kernel : decode cX3_drawPayment 82 = .ok (.iconst 1, 1)) (by decide) ?_
      refine re_iadd (pc := 83) (by decide +kernel : decode cX3_drawPayment 83 = .ok (.iadd, 1)) ?_
      obtain ⟨S64_, g65_, h⟩ := rv_b_e h
      refine re_pI (pc := 84) g65_ lfX3_13 rfl rfl rfl rfl (by decide +kernel : decode cX3_drawPayment 84 = .ok (.putfield 13, 3)) ?_
      refine re_goto (pc := 87) 100 (by decide +kernel : decode cX3_drawPayment 87 = .ok (.goto 13, 3)) (by decide) ?_
      refine re_iloadn (pc := 100) 3 (by decide +kernel : decode cX3_drawPayment 100 = .ok (.iload_n 2, 1)) rfl ?_
      cases h
      exact re_iret (fun ty hty => by cases hty; rfl) (by decide +kernel : decode cX3_drawPayment 101 = .ok (.ireturn, 1))
    · refine re_if_ne_t (pc := 64) 90 (by decide +kernel : decode cX3_drawPayment 64 = .ok (.ifCond .ne 26, 3)) (by decide) g49_ ?_
      refine re_aloadn (pc := 90) 4 (by decide +kernel : decode cX3_drawPayment 90 = .ok (.aload_n 0, 1)) rfl ?_
      refine re_dup (pc := 91) (by decide +kernel : decode cX3_drawPayment 91 = .ok (.dup, 1)) rfl ?_
      obtain ⟨x50_, g51_, h⟩ := rv_b_e h
      refine re_gI (pc := 92) g51_ lfX3_16 rfl (by decide +kernel : decode cX3_drawPayment 92 = .ok (.getfield 16, 3)) ?_
      refine re_iconst (pc := 95) (1 : Int32) (by decide +kernel : decode cX3_drawPayment 95 = .ok (.iconst 1, 1)) (by decide) ?_
      refine re_iadd (pc := 96) (by decide +kernel : decode cX3_drawPayment 96 = .ok (.iadd, 1)) ?_
      obtain ⟨S52_, g53_, h⟩ := rv_b_e h
      refine re_pI (pc := 97) g53_ lfX3_16 rfl rfl rfl rfl (by decide +kernel : decode cX3_drawPayment 97 = .ok (.putfield 16, 3)) ?_
      refine re_iloadn (pc := 100) 3 (by decide +kernel : decode cX3_drawPayment 100 = .ok (.iload_n 2, 1)) rfl ?_
      cases h
      exact re_iret (fun ty hty => by cases hty; rfl) (by decide +kernel : decode cX3_drawPayment 101 = .ok (.ireturn, 1))
theorem metX3_drawPayment (n : Nat) (S : rvS) (a0 : Nat) (a1 : Nat) (r : Int32) (S' : rvS) (h : fnX3_drawPayment n S a0 a1 = some (r, S')) : rv_Met yX3_drawPayment mX3_drawPayment 4 [.ref a0, .ref a1] S (some (.int r)) S' := rv_Met.of ⟨by decide +kernel, rfl, (fun z => by first | rfl | cases z), rfl⟩ (Nat.le_of_ble_eq_true rfl) rfl (eX3_drawPayment_in n S a0 a1 r S' h)
noncomputable def fnX3_drawTheft (n : Nat) (S : rvS) (a0 : Nat) (a1 : Nat) : Option rvS :=
  (rv_gR S 8 a1 0).bind fun a1_ =>
  (rv_gI S 0 a1_ 0).bind fun x3_ =>
  (rv_ck S 2 a0).bind fun u5_ =>
  rv_bp (fnX3_draw n S a0 x3_) fun x8_ S9_ =>
  (rv_gR S9_ 8 a1 1).bind fun a12_ =>
  (rv_gI S9_ 5 a12_ 0).bind fun x14_ =>
  (rv_ck S9_ 2 a0).bind fun u16_ =>
  rv_bp (fnX3_draw n S9_ a0 x14_) fun x19_ S20_ =>
  (rv_gR S20_ 8 a1 1).bind fun a23_ =>
  (rv_ck S20_ 5 a23_).bind fun u25_ =>
  (fnX6_has n S20_ a23_ x19_).bind fun x28_ =>
  if x28_ = 0 then (
    some S20_)
  else (
    (rv_gR S20_ 8 a1 0).bind fun a31_ =>
    (rv_ck S20_ 0 a31_).bind fun u33_ =>
    (fnX1_isDead n S20_ a31_ x8_).bind fun x36_ =>
    if x36_ = 0 then (
      (rv_gR S20_ 8 a1 1).bind fun a39_ =>
      (rv_gR S20_ 5 a39_ 3).bind fun a41_ =>
      (rv_aI S20_ 0 a41_ x19_).bind fun x43_ =>
      if x43_ = x8_ then (
        some S20_)
      else (
        (rv_gR S20_ 8 a1 1).bind fun a46_ =>
        (rv_gR S20_ 5 a46_ 3).bind fun a48_ =>
        (rv_uI S20_ a48_ x19_ x8_).bind fun S50_ =>
        (rv_gI S50_ 2 a0 4).bind fun x52_ =>
        (rv_pI S50_ 2 a0 4 (x52_ + (1 : Int32))).bind fun S54_ =>
        some S54_))
    else (
      some S20_))
set_option maxRecDepth 20000 in
set_option maxHeartbeats 4000000 in
theorem eX3_drawTheft_in (n : Nat) (S : rvS) (a0 : Nat) (a1 : Nat) (S' : rvS) (h : fnX3_drawTheft n S a0 a1 = some S') : rv_Ev mX3_drawTheft 1 0 [(0, .ref a0), (1, .ref a1)] [] S none S' := by
  unfold fnX3_drawTheft at h
  refine re_aloadn (pc := 0) 0 (by decide +kernel : decode cX3_drawTheft 0 = .ok (.aload_n 0, 1)) rfl ?_
  refine re_aloadn (pc := 1) 1 (by decide +kernel : decode cX3_drawTheft 1 = .ok (.aload_n 1, 1)) rfl ?_
  obtain ⟨a1_, g2_, h⟩ := rv_b_e h
  refine re_gR (pc := 2) g2_ lfX3_30 rfl (by decide +kernel : decode cX3_drawTheft 2 = .ok (.getfield 30, 3)) ?_
  obtain ⟨x3_, g4_, h⟩ := rv_b_e h
  refine re_gI (pc := 5) g4_ lfX3_40 rfl (by decide +kernel : decode cX3_drawTheft 5 = .ok (.getfield 40, 3)) ?_
  obtain ⟨u5_, g6_, h⟩ := rv_b_e h
  obtain ⟨x8_, S9_, g10_, h⟩ := rv_bp_e h
  have m7_ := metX3_draw n S a0 x3_ _ _ g10_
  have z11_ : rv_same S S9_ := m7_.sh rfl
  refine re_cV (pc := 8) [.int x3_] m7_ (rv_okl.k z11_) (rv_up.sh z11_) (by decide) (rv_ck_e g6_) ⟨by decide, rfl⟩ (Nat.le_of_ble_eq_true rfl) lVX3_36 rfl (by decide +kernel : decode cX3_drawTheft 8 = .ok (.invokevirtual 36, 3)) ?_
  refine re_istoren (pc := 11) (lv1 := [(2, .int x8_), (0, .ref a0), (1, .ref a1)]) (by decide +kernel : decode cX3_drawTheft 11 = .ok (.istore_n 2, 1)) rfl (by decide) rfl ?_
  refine re_aloadn (pc := 12) 1 (by decide +kernel : decode cX3_drawTheft 12 = .ok (.aload_n 0, 1)) rfl ?_
  refine re_aloadn (pc := 13) 2 (by decide +kernel : decode cX3_drawTheft 13 = .ok (.aload_n 1, 1)) rfl ?_
  obtain ⟨a12_, g13_, h⟩ := rv_b_e h
  refine re_gR (pc := 14) g13_ lfX3_61 rfl (by decide +kernel : decode cX3_drawTheft 14 = .ok (.getfield 61, 3)) ?_
  obtain ⟨x14_, g15_, h⟩ := rv_b_e h
  refine re_gI (pc := 17) g15_ lfX3_90 rfl (by decide +kernel : decode cX3_drawTheft 17 = .ok (.getfield 90, 3)) ?_
  obtain ⟨u16_, g17_, h⟩ := rv_b_e h
  obtain ⟨x19_, S20_, g21_, h⟩ := rv_bp_e h
  have m18_ := metX3_draw n S9_ a0 x14_ _ _ g21_
  have z22_ : rv_same S9_ S20_ := m18_.sh rfl
  refine re_cV (pc := 20) [.int x14_] m18_ (rv_okl.k z22_) (rv_up.sh z22_) (by decide) (rv_ck_e g17_) ⟨by decide, rfl⟩ (Nat.le_of_ble_eq_true rfl) lVX3_36 rfl (by decide +kernel : decode cX3_drawTheft 20 = .ok (.invokevirtual 36, 3)) ?_
  refine re_istoren (pc := 23) (lv1 := [(3, .int x19_), (2, .int x8_), (0, .ref a0), (1, .ref a1)]) (by decide +kernel : decode cX3_drawTheft 23 = .ok (.istore_n 3, 1)) rfl (by decide) rfl ?_
  refine re_aloadn (pc := 24) 3 (by decide +kernel : decode cX3_drawTheft 24 = .ok (.aload_n 1, 1)) rfl ?_
  obtain ⟨a23_, g24_, h⟩ := rv_b_e h
  refine re_gR (pc := 25) g24_ lfX3_61 rfl (by decide +kernel : decode cX3_drawTheft 25 = .ok (.getfield 61, 3)) ?_
  refine re_iloadn (pc := 28) 0 (by decide +kernel : decode cX3_drawTheft 28 = .ok (.iload_n 3, 1)) rfl ?_
  obtain ⟨u25_, g26_, h⟩ := rv_b_e h
  obtain ⟨x28_, g29_, h⟩ := rv_b_e h
  have m27_ := metX6_has n S20_ a23_ x19_ _ g29_
  refine re_cV (pc := 29) [.int x19_] m27_ (rv_okl.k ⟨rfl, rfl⟩) (rv_up.rf _ _) (by decide) (rv_ck_e g26_) ⟨by decide, rfl⟩ (Nat.le_of_ble_eq_true rfl) lVX3_91 rfl (by decide +kernel : decode cX3_drawTheft 29 = .ok (.invokevirtual 91, 3)) ?_
  rcases rv_if_e h with ⟨g30_, h⟩ | ⟨g30_, h⟩
  · refine re_if_eq_t (pc := 32) 79 (by decide +kernel : decode cX3_drawTheft 32 = .ok (.ifCond .eq 47, 3)) (by decide) g30_ ?_
    cases h
    exact re_vret (by decide +kernel : decode cX3_drawTheft 79 = .ok (.return_, 1))
  · refine re_if_eq_f (pc := 32) 79 (by decide +kernel : decode cX3_drawTheft 32 = .ok (.ifCond .eq 47, 3)) (by decide) g30_ ?_
    refine re_aloadn (pc := 35) 3 (by decide +kernel : decode cX3_drawTheft 35 = .ok (.aload_n 1, 1)) rfl ?_
    obtain ⟨a31_, g32_, h⟩ := rv_b_e h
    refine re_gR (pc := 36) g32_ lfX3_30 rfl (by decide +kernel : decode cX3_drawTheft 36 = .ok (.getfield 30, 3)) ?_
    refine re_iloadn (pc := 39) 1 (by decide +kernel : decode cX3_drawTheft 39 = .ok (.iload_n 2, 1)) rfl ?_
    obtain ⟨u33_, g34_, h⟩ := rv_b_e h
    obtain ⟨x36_, g37_, h⟩ := rv_b_e h
    have m35_ := metX1_isDead n S20_ a31_ x8_ _ g37_
    refine re_cV (pc := 40) [.int x8_] m35_ (rv_okl.k ⟨rfl, rfl⟩) (rv_up.rf _ _) (by decide) (rv_ck_e g34_) ⟨by decide, rfl⟩ (Nat.le_of_ble_eq_true rfl) lVX3_92 rfl (by decide +kernel : decode cX3_drawTheft 40 = .ok (.invokevirtual 92, 3)) ?_
    rcases rv_if_e h with ⟨g38_, h⟩ | ⟨g38_, h⟩
    · refine re_if_ne_f (pc := 43) 79 (by decide +kernel : decode cX3_drawTheft 43 = .ok (.ifCond .ne 36, 3)) (by decide) g38_ ?_
      refine re_aloadn (pc := 46) 3 (by decide +kernel : decode cX3_drawTheft 46 = .ok (.aload_n 1, 1)) rfl ?_
      obtain ⟨a39_, g40_, h⟩ := rv_b_e h
      refine re_gR (pc := 47) g40_ lfX3_61 rfl (by decide +kernel : decode cX3_drawTheft 47 = .ok (.getfield 61, 3)) ?_
      obtain ⟨a41_, g42_, h⟩ := rv_b_e h
      refine re_gR (pc := 50) g42_ lfX3_95 rfl (by decide +kernel : decode cX3_drawTheft 50 = .ok (.getfield 95, 3)) ?_
      refine re_iloadn (pc := 53) 0 (by decide +kernel : decode cX3_drawTheft 53 = .ok (.iload_n 3, 1)) rfl ?_
      obtain ⟨x43_, g44_, h⟩ := rv_b_e h
      refine re_aI (pc := 54) g44_ (by decide +kernel : decode cX3_drawTheft 54 = .ok (.iaload, 1)) ?_
      refine re_iloadn (pc := 55) 1 (by decide +kernel : decode cX3_drawTheft 55 = .ok (.iload_n 2, 1)) rfl ?_
      rcases rv_if_e h with ⟨g45_, h⟩ | ⟨g45_, h⟩
      · refine re_icmp_eq_t (pc := 56) 79 (by decide +kernel : decode cX3_drawTheft 56 = .ok (.if_icmp .eq 23, 3)) (by decide) g45_ ?_
        cases h
        exact re_vret (by decide +kernel : decode cX3_drawTheft 79 = .ok (.return_, 1))
      · refine re_icmp_eq_f (pc := 56) 79 (by decide +kernel : decode cX3_drawTheft 56 = .ok (.if_icmp .eq 23, 3)) (by decide) g45_ ?_
        refine re_aloadn (pc := 59) 3 (by decide +kernel : decode cX3_drawTheft 59 = .ok (.aload_n 1, 1)) rfl ?_
        obtain ⟨a46_, g47_, h⟩ := rv_b_e h
        refine re_gR (pc := 60) g47_ lfX3_61 rfl (by decide +kernel : decode cX3_drawTheft 60 = .ok (.getfield 61, 3)) ?_
        obtain ⟨a48_, g49_, h⟩ := rv_b_e h
        refine re_gR (pc := 63) g49_ lfX3_95 rfl (by decide +kernel : decode cX3_drawTheft 63 = .ok (.getfield 95, 3)) ?_
        refine re_iloadn (pc := 66) 0 (by decide +kernel : decode cX3_drawTheft 66 = .ok (.iload_n 3, 1)) rfl ?_
        refine re_iloadn (pc := 67) 1 (by decide +kernel : decode cX3_drawTheft 67 = .ok (.iload_n 2, 1)) rfl ?_
        obtain ⟨S50_, g51_, h⟩ := rv_b_e h
        refine re_uI (pc := 68) g51_ (by decide +kernel : decode cX3_drawTheft 68 = .ok (.iastore, 1)) ?_
        refine re_aloadn (pc := 69) 2 (by decide +kernel : decode cX3_drawTheft 69 = .ok (.aload_n 0, 1)) rfl ?_
        refine re_dup (pc := 70) (by decide +kernel : decode cX3_drawTheft 70 = .ok (.dup, 1)) rfl ?_
        obtain ⟨x52_, g53_, h⟩ := rv_b_e h
        refine re_gI (pc := 71) g53_ lfX3_22 rfl (by decide +kernel : decode cX3_drawTheft 71 = .ok (.getfield 22, 3)) ?_
        refine re_iconst (pc := 74) (1 : Int32) (by decide +kernel : decode cX3_drawTheft 74 = .ok (.iconst 1, 1)) (by decide) ?_
        refine re_iadd (pc := 75) (by decide +kernel : decode cX3_drawTheft 75 = .ok (.iadd, 1)) ?_
        obtain ⟨S54_, g55_, h⟩ := rv_b_e h
        refine re_pI (pc := 76) g55_ lfX3_22 rfl rfl rfl rfl (by decide +kernel : decode cX3_drawTheft 76 = .ok (.putfield 22, 3)) ?_
        cases h
        exact re_vret (by decide +kernel : decode cX3_drawTheft 79 = .ok (.return_, 1))
    · refine re_if_ne_t (pc := 43) 79 (by decide +kernel : decode cX3_drawTheft 43 = .ok (.ifCond .ne 36, 3)) (by decide) g38_ ?_
      cases h
      exact re_vret (by decide +kernel : decode cX3_drawTheft 79 = .ok (.return_, 1))
theorem metX3_drawTheft (n : Nat) (S : rvS) (a0 : Nat) (a1 : Nat) (S' : rvS) (h : fnX3_drawTheft n S a0 a1 = some S') : rv_Met yX3_drawTheft mX3_drawTheft 1 [.ref a0, .ref a1] S none S' := rv_Met.of ⟨by decide +kernel, rfl, (fun z => by first | rfl | cases z), rfl⟩ (Nat.le_of_ble_eq_true rfl) rfl (eX3_drawTheft_in n S a0 a1 S' h)
noncomputable def cX3_passDay_59 (n : Nat) (S : rvS) (a0 : Nat) (a1 : Nat) : Option rvS :=
  (rv_ck S 2 a0).bind fun u1_ =>
  rv_bp (fnX3_draw n S a0 (16 : Int32)) fun x4_ S5_ =>
  if x4_ = 0 then (
    (rv_ck S5_ 2 a0).bind fun u9_ =>
    (fnX3_drawTheft n S5_ a0 a1).bind fun S12_ =>
    some S12_)
  else (
    some S5_)
set_option maxRecDepth 20000 in
set_option maxHeartbeats 4000000 in
theorem eX3_passDay_59 (n : Nat) (S : rvS) (a0 : Nat) (a1 : Nat) (S' : rvS) (h : cX3_passDay_59 n S a0 a1 = some S') : rv_Ev mX3_passDay 5 59 [(0, .ref a0), (1, .ref a1)] [] S none S' := by
  unfold cX3_passDay_59 at h
  refine re_aloadn (pc := 59) 0 (by decide +kernel : decode cX3_passDay 59 = .ok (.aload_n 0, 1)) rfl ?_
  refine re_bipush (pc := 60) (16 : Int32) (by decide +kernel : decode cX3_passDay 60 = .ok (.bipush 16, 2)) (by decide) ?_
  obtain ⟨u1_, g2_, h⟩ := rv_b_e h
  obtain ⟨x4_, S5_, g6_, h⟩ := rv_bp_e h
  have m3_ := metX3_draw n S a0 (16 : Int32) _ _ g6_
  have z7_ : rv_same S S5_ := m3_.sh rfl
  refine re_cV (pc := 62) [.int (16 : Int32)] m3_ (rv_okl.k z7_) (rv_up.sh z7_) (by decide) (rv_ck_e g2_) ⟨by decide, rfl⟩ (Nat.le_of_ble_eq_true rfl) lVX3_36 rfl (by decide +kernel : decode cX3_passDay 62 = .ok (.invokevirtual 36, 3)) ?_
  rcases rv_if_e h with ⟨g8_, h⟩ | ⟨g8_, h⟩
  · refine re_if_ne_f (pc := 65) 73 (by decide +kernel : decode cX3_passDay 65 = .ok (.ifCond .ne 8, 3)) (by decide) g8_ ?_
    refine re_aloadn (pc := 68) 0 (by decide +kernel : decode cX3_passDay 68 = .ok (.aload_n 0, 1)) rfl ?_
    refine re_aloadn (pc := 69) 1 (by decide +kernel : decode cX3_passDay 69 = .ok (.aload_n 1, 1)) rfl ?_
    obtain ⟨u9_, g10_, h⟩ := rv_b_e h
    obtain ⟨S12_, g13_, h⟩ := rv_b_e h
    have m11_ := metX3_drawTheft n S5_ a0 a1 _ g13_
    have z14_ : rv_same S5_ S12_ := m11_.sh rfl
    refine re_cV (pc := 70) [.ref a1] m11_ (rv_okl.k z14_) (rv_up.sh z14_) (by decide) (rv_ck_e g10_) ⟨by decide, rfl⟩ (Nat.le_of_ble_eq_true rfl) lVX3_57 rfl (by decide +kernel : decode cX3_passDay 70 = .ok (.invokevirtual 57, 3)) ?_
    cases h
    exact re_vret (by decide +kernel : decode cX3_passDay 73 = .ok (.return_, 1))
  · refine re_if_ne_t (pc := 65) 73 (by decide +kernel : decode cX3_passDay 65 = .ok (.ifCond .ne 8, 3)) (by decide) g8_ ?_
    cases h
    exact re_vret (by decide +kernel : decode cX3_passDay 73 = .ok (.return_, 1))
noncomputable def fnX3_passDay (n : Nat) (S : rvS) (a0 : Nat) (a1 : Nat) : Option rvS :=
  (rv_ck S 2 a0).bind fun u1_ =>
  rv_bp (fnX3_drawPayment n S a0 a1) fun x4_ S5_ =>
  (rv_gR S5_ 8 a1 0).bind fun a8_ =>
  (rv_ck S5_ 2 a0).bind fun u10_ =>
  rv_bp (fnX3_draw n S5_ a0 (16 : Int32)) fun x13_ S14_ =>
  if x13_ = 0 then (
    (rv_gI S14_ 0 a8_ 0).bind fun x18_ =>
    if (24 : Int32) ≤ x18_ then (
      cX3_passDay_59 n S14_ a0 a1)
    else (
      (rv_ck S14_ 0 a8_).bind fun u21_ =>
      (fnX1_has n S14_ a8_ x4_).bind fun x24_ =>
      if x24_ = 0 then (
        cX3_passDay_59 n S14_ a0 a1)
      else (
        (rv_gR S14_ 0 a8_ 3).bind fun a27_ =>
        (rv_aI S14_ 0 a27_ x4_).bind fun x29_ =>
        (rv_ck S14_ 0 a8_).bind fun u31_ =>
        rv_bp (fnX1_add n S14_ a8_ (0 : Int64) x29_) fun x34_ S35_ =>
        (rv_gI S35_ 2 a0 3).bind fun x38_ =>
        (rv_pI S35_ 2 a0 3 (x38_ + (1 : Int32))).bind fun S40_ =>
        cX3_passDay_59 n S40_ a0 a1)))
  else (
    cX3_passDay_59 n S14_ a0 a1)
set_option maxRecDepth 20000 in
set_option maxHeartbeats 4000000 in
theorem eX3_passDay_in (n : Nat) (S : rvS) (a0 : Nat) (a1 : Nat) (S' : rvS) (h : fnX3_passDay n S a0 a1 = some S') : rv_Ev mX3_passDay 5 0 [(0, .ref a0), (1, .ref a1)] [] S none S' := by
  unfold fnX3_passDay at h
  refine re_aloadn (pc := 0) 0 (by decide +kernel : decode cX3_passDay 0 = .ok (.aload_n 0, 1)) rfl ?_
  refine re_aloadn (pc := 1) 1 (by decide +kernel : decode cX3_passDay 1 = .ok (.aload_n 1, 1)) rfl ?_
  obtain ⟨u1_, g2_, h⟩ := rv_b_e h
  obtain ⟨x4_, S5_, g6_, h⟩ := rv_bp_e h
  have m3_ := metX3_drawPayment n S a0 a1 _ _ g6_
  have z7_ : rv_same S S5_ := m3_.sh rfl
  refine re_cV (pc := 2) [.ref a1] m3_ (rv_okl.k z7_) (rv_up.sh z7_) (by decide) (rv_ck_e g2_) ⟨by decide, rfl⟩ (Nat.le_of_ble_eq_true rfl) lVX3_26 rfl (by decide +kernel : decode cX3_passDay 2 = .ok (.invokevirtual 26, 3)) ?_
  refine re_istoren (pc := 5) (lv1 := [(2, .int x4_), (0, .ref a0), (1, .ref a1)]) (by decide +kernel : decode cX3_passDay 5 = .ok (.istore_n 2, 1)) rfl (by decide) rfl ?_
  refine re_aloadn (pc := 6) 2 (by decide +kernel : decode cX3_passDay 6 = .ok (.aload_n 1, 1)) rfl ?_
  obtain ⟨a8_, g9_, h⟩ := rv_b_e h
  refine re_gR (pc := 7) g9_ lfX3_30 rfl (by decide +kernel : decode cX3_passDay 7 = .ok (.getfield 30, 3)) ?_
  refine re_astoren (pc := 10) (lv1 := [(3, .ref a8_), (2, .int x4_), (0, .ref a0), (1, .ref a1)]) (by decide +kernel : decode cX3_passDay 10 = .ok (.astore_n 3, 1)) rfl (by decide) rfl ?_
  refine re_aloadn (pc := 11) 2 (by decide +kernel : decode cX3_passDay 11 = .ok (.aload_n 0, 1)) rfl ?_
  refine re_bipush (pc := 12) (16 : Int32) (by decide +kernel : decode cX3_passDay 12 = .ok (.bipush 16, 2)) (by decide) ?_
  obtain ⟨u10_, g11_, h⟩ := rv_b_e h
  obtain ⟨x13_, S14_, g15_, h⟩ := rv_bp_e h
  have m12_ := metX3_draw n S5_ a0 (16 : Int32) _ _ g15_
  have z16_ : rv_same S5_ S14_ := m12_.sh rfl
  refine re_cV (pc := 14) [.int (16 : Int32)] m12_ (rv_okl.k z16_) (rv_up.sh z16_) (by decide) (rv_ck_e g11_) ⟨by decide, rfl⟩ (Nat.le_of_ble_eq_true rfl) lVX3_36 rfl (by decide +kernel : decode cX3_passDay 14 = .ok (.invokevirtual 36, 3)) ?_
  rcases rv_if_e h with ⟨g17_, h⟩ | ⟨g17_, h⟩
  · refine re_if_ne_f (pc := 17) 59 (by decide +kernel : decode cX3_passDay 17 = .ok (.ifCond .ne 42, 3)) (by decide) g17_ ?_
    refine re_aloadn (pc := 20) 0 (by decide +kernel : decode cX3_passDay 20 = .ok (.aload_n 3, 1)) rfl ?_
    obtain ⟨x18_, g19_, h⟩ := rv_b_e h
    refine re_gI (pc := 21) g19_ lfX3_40 rfl (by decide +kernel : decode cX3_passDay 21 = .ok (.getfield 40, 3)) ?_
    refine re_bipush (pc := 24) (24 : Int32) (by decide +kernel : decode cX3_passDay 24 = .ok (.bipush 24, 2)) (by decide) ?_
    rcases rv_if_e h with ⟨g20_, h⟩ | ⟨g20_, h⟩
    · refine re_icmp_ge_t (pc := 26) 59 (by decide +kernel : decode cX3_passDay 26 = .ok (.if_icmp .ge 33, 3)) (by decide) g20_ ?_
      refine re_sub [2, 3] (lv1 := [(0, .ref a0), (1, .ref a1)]) rfl ?_
      exact eX3_passDay_59 n S14_ a0 a1 _ h
    · refine re_icmp_ge_f (pc := 26) 59 (by decide +kernel : decode cX3_passDay 26 = .ok (.if_icmp .ge 33, 3)) (by decide) g20_ ?_
      refine re_aloadn (pc := 29) 0 (by decide +kernel : decode cX3_passDay 29 = .ok (.aload_n 3, 1)) rfl ?_
      refine re_iloadn (pc := 30) 1 (by decide +kernel : decode cX3_passDay 30 = .ok (.iload_n 2, 1)) rfl ?_
      obtain ⟨u21_, g22_, h⟩ := rv_b_e h
      obtain ⟨x24_, g25_, h⟩ := rv_b_e h
      have m23_ := metX1_has n S14_ a8_ x4_ _ g25_
      refine re_cV (pc := 31) [.int x4_] m23_ (rv_okl.k ⟨rfl, rfl⟩) (rv_up.rf _ _) (by decide) (rv_ck_e g22_) ⟨by decide, rfl⟩ (Nat.le_of_ble_eq_true rfl) lVX3_45 rfl (by decide +kernel : decode cX3_passDay 31 = .ok (.invokevirtual 45, 3)) ?_
      rcases rv_if_e h with ⟨g26_, h⟩ | ⟨g26_, h⟩
      · refine re_if_eq_t (pc := 34) 59 (by decide +kernel : decode cX3_passDay 34 = .ok (.ifCond .eq 25, 3)) (by decide) g26_ ?_
        refine re_sub [2, 3] (lv1 := [(0, .ref a0), (1, .ref a1)]) rfl ?_
        exact eX3_passDay_59 n S14_ a0 a1 _ h
      · refine re_if_eq_f (pc := 34) 59 (by decide +kernel : decode cX3_passDay 34 = .ok (.ifCond .eq 25, 3)) (by decide) g26_ ?_
        refine re_aloadn (pc := 37) 0 (by decide +kernel : decode cX3_passDay 37 = .ok (.aload_n 3, 1)) rfl ?_
        refine re_lconst (pc := 38) (0 : Int64) (by decide +kernel : decode cX3_passDay 38 = .ok (.lconst 0, 1)) (by decide) ?_
        refine re_aloadn (pc := 39) 0 (by decide +kernel : decode cX3_passDay 39 = .ok (.aload_n 3, 1)) rfl ?_
        obtain ⟨a27_, g28_, h⟩ := rv_b_e h
        refine re_gR (pc := 40) g28_ lfX3_49 rfl (by decide +kernel : decode cX3_passDay 40 = .ok (.getfield 49, 3)) ?_
        refine re_iloadn (pc := 43) 1 (by decide +kernel : decode cX3_passDay 43 = .ok (.iload_n 2, 1)) rfl ?_
        obtain ⟨x29_, g30_, h⟩ := rv_b_e h
        refine re_aI (pc := 44) g30_ (by decide +kernel : decode cX3_passDay 44 = .ok (.iaload, 1)) ?_
        obtain ⟨u31_, g32_, h⟩ := rv_b_e h
        obtain ⟨x34_, S35_, g36_, h⟩ := rv_bp_e h
        have m33_ := metX1_add n S14_ a8_ (0 : Int64) x29_ _ _ g36_
        have z37_ : rv_same S14_ S35_ := m33_.sh rfl
        refine re_cV (pc := 45) [.long (0 : Int64), .int x29_] m33_ (rv_okl.k z37_) (rv_up.sh z37_) (by decide) (rv_ck_e g32_) ⟨by decide, rfl⟩ (Nat.le_of_ble_eq_true rfl) lVX3_53 rfl (by decide +kernel : decode cX3_passDay 45 = .ok (.invokevirtual 53, 3)) ?_
        refine re_pop (pc := 48) (by decide +kernel : decode cX3_passDay 48 = .ok (.pop, 1)) rfl ?_
        refine re_aloadn (pc := 49) 2 (by decide +kernel : decode cX3_passDay 49 = .ok (.aload_n 0, 1)) rfl ?_
        refine re_dup (pc := 50) (by decide +kernel : decode cX3_passDay 50 = .ok (.dup, 1)) rfl ?_
        obtain ⟨x38_, g39_, h⟩ := rv_b_e h
        refine re_gI (pc := 51) g39_ lfX3_19 rfl (by decide +kernel : decode cX3_passDay 51 = .ok (.getfield 19, 3)) ?_
        refine re_iconst (pc := 54) (1 : Int32) (by decide +kernel : decode cX3_passDay 54 = .ok (.iconst 1, 1)) (by decide) ?_
        refine re_iadd (pc := 55) (by decide +kernel : decode cX3_passDay 55 = .ok (.iadd, 1)) ?_
        obtain ⟨S40_, g41_, h⟩ := rv_b_e h
        refine re_pI (pc := 56) g41_ lfX3_19 rfl rfl rfl rfl (by decide +kernel : decode cX3_passDay 56 = .ok (.putfield 19, 3)) ?_
        refine re_sub [2, 3] (lv1 := [(0, .ref a0), (1, .ref a1)]) rfl ?_
        exact eX3_passDay_59 n S40_ a0 a1 _ h
  · refine re_if_ne_t (pc := 17) 59 (by decide +kernel : decode cX3_passDay 17 = .ok (.ifCond .ne 42, 3)) (by decide) g17_ ?_
    refine re_sub [2, 3] (lv1 := [(0, .ref a0), (1, .ref a1)]) rfl ?_
    exact eX3_passDay_59 n S14_ a0 a1 _ h
theorem metX3_passDay (n : Nat) (S : rvS) (a0 : Nat) (a1 : Nat) (S' : rvS) (h : fnX3_passDay n S a0 a1 = some S') : rv_Met yX3_passDay mX3_passDay 5 [.ref a0, .ref a1] S none S' := rv_Met.of ⟨by decide +kernel, rfl, (fun z => by first | rfl | cases z), rfl⟩ (Nat.le_of_ble_eq_true rfl) rfl (eX3_passDay_in n S a0 a1 S' h)
noncomputable def fnX6_init (n : Nat) (S : rvS) (a0 : Nat) : Option rvS :=
  (rv_vl S a0).bind fun _ =>
  (rv_pI S 5 a0 1 (3 : Int32)).bind fun S2_ =>
  rv_lt (64 + S2_.1.length) fun a5_ =>
  rv_lt (rv_new S2_ (50, 40)) fun S7_ =>
  (rv_pR S7_ 5 a0 2 a5_).bind fun S11_ =>
  rv_lt (64 + S11_.1.length) fun a15_ =>
  rv_lt (rv_new S11_ (50, 40)) fun S17_ =>
  (rv_pR S17_ 5 a0 3 a15_).bind fun S22_ =>
  rv_lt (64 + S22_.1.length) fun a27_ =>
  rv_lt (rv_new S22_ (50, 40)) fun S29_ =>
  (rv_pR S29_ 5 a0 4 a27_).bind fun S35_ =>
  some S35_
set_option maxRecDepth 20000 in
set_option maxHeartbeats 4000000 in
theorem eX6_init_in (n : Nat) (S : rvS) (a0 : Nat) (S' : rvS) (h : fnX6_init n S a0 = some S') : rv_Ev mX6_init 1 0 [(0, .ref a0)] [] S none S' := by
  unfold fnX6_init at h
  obtain ⟨_, g1_, h⟩ := rv_b_e h
  refine re_aloadn (pc := 0) 0 (by decide +kernel : decode cX6_init 0 = .ok (.aload_n 0, 1)) rfl ?_
  refine re_obj (pc := 1) (rw1 144 (by decide +kernel) rfl) rwoi rwoc (Nat.le_of_ble_eq_true rfl) (by decide) (by decide +kernel : decode cX6_init 1 = .ok (.invokespecial 3, 3)) ?_
  refine re_aloadn (pc := 4) 0 (by decide +kernel : decode cX6_init 4 = .ok (.aload_n 0, 1)) rfl ?_
  refine re_iconst (pc := 5) (3 : Int32) (by decide +kernel : decode cX6_init 5 = .ok (.iconst 3, 1)) (by decide) ?_
  obtain ⟨S2_, g3_, h⟩ := rv_b_e h
  have o4_ : a0 < 64 + S2_.1.length := by rw [rv_pI_sh g3_]; exact (rv_vl_e g1_)
  refine re_pI (pc := 6) g3_ lfX6_11 rfl rfl rfl rfl (by decide +kernel : decode cX6_init 6 = .ok (.putfield 11, 3)) ?_
  refine re_aloadn (pc := 9) 0 (by decide +kernel : decode cX6_init 9 = .ok (.aload_n 0, 1)) rfl ?_
  refine re_bipush (pc := 10) (40 : Int32) (by decide +kernel : decode cX6_init 10 = .ok (.bipush 40, 2)) (by decide) ?_
  refine re_newa (pc := 12) (t := 0) (N := 40) rfl (rv_alv (List.forall_mem_cons.mpr ⟨o4_, (fun _ z => absurd z List.not_mem_nil)⟩)) ((List.forall_mem_cons.mpr ⟨o4_, (fun _ z => absurd z List.not_mem_nil)⟩)) (by decide) rfl (rw1 137 (by decide +kernel) rfl) (by decide) (by decide) (by decide) (by decide +kernel : decode cX6_init 12 = .ok (.newarray .int, 2)) ?_
  obtain ⟨a5_, g6_, h⟩ := rv_lt_e h
  refine re_nR g6_ ?_
  obtain ⟨S7_, g8_, h⟩ := rv_lt_e h
  refine re_nS g8_ ?_
  have o9_ : a0 < 64 + S7_.1.length := rv_okn g8_ o4_
  have o10_ : a5_ < 64 + S7_.1.length := by rw [← g6_]; exact rv_okn0 g8_
  obtain ⟨S11_, g12_, h⟩ := rv_b_e h
  have o13_ : a0 < 64 + S11_.1.length := by rw [rv_pR_sh g12_]; exact o9_
  have o14_ : a5_ < 64 + S11_.1.length := by rw [rv_pR_sh g12_]; exact o10_
  refine re_pR (pc := 14) g12_ lfX6_15 rfl (Or.inr ⟨rfl, rfl, rfl, (rw1 156 (by decide +kernel) rfl)⟩) (by decide +kernel : decode cX6_init 14 = .ok (.putfield 15, 3)) ?_
  refine re_aloadn (pc := 17) 0 (by decide +kernel : decode cX6_init 17 = .ok (.aload_n 0, 1)) rfl ?_
  refine re_bipush (pc := 18) (40 : Int32) (by decide +kernel : decode cX6_init 18 = .ok (.bipush 40, 2)) (by decide) ?_
  refine re_newa (pc := 20) (t := 0) (N := 40) rfl (rv_alv (List.forall_mem_cons.mpr ⟨o13_, (fun _ z => absurd z List.not_mem_nil)⟩)) ((List.forall_mem_cons.mpr ⟨o13_, (fun _ z => absurd z List.not_mem_nil)⟩)) (by decide) rfl (rw1 137 (by decide +kernel) rfl) (by decide) (by decide) (by decide) (by decide +kernel : decode cX6_init 20 = .ok (.newarray .int, 2)) ?_
  obtain ⟨a15_, g16_, h⟩ := rv_lt_e h
  refine re_nR g16_ ?_
  obtain ⟨S17_, g18_, h⟩ := rv_lt_e h
  refine re_nS g18_ ?_
  have o19_ : a0 < 64 + S17_.1.length := rv_okn g18_ o13_
  have o20_ : a5_ < 64 + S17_.1.length := rv_okn g18_ o14_
  have o21_ : a15_ < 64 + S17_.1.length := by rw [← g16_]; exact rv_okn0 g18_
  obtain ⟨S22_, g23_, h⟩ := rv_b_e h
  have o24_ : a0 < 64 + S22_.1.length := by rw [rv_pR_sh g23_]; exact o19_
  have o25_ : a5_ < 64 + S22_.1.length := by rw [rv_pR_sh g23_]; exact o20_
  have o26_ : a15_ < 64 + S22_.1.length := by rw [rv_pR_sh g23_]; exact o21_
  refine re_pR (pc := 22) g23_ lfX6_19 rfl (Or.inr ⟨rfl, rfl, rfl, (rw1 161 (by decide +kernel) rfl)⟩) (by decide +kernel : decode cX6_init 22 = .ok (.putfield 19, 3)) ?_
  refine re_aloadn (pc := 25) 0 (by decide +kernel : decode cX6_init 25 = .ok (.aload_n 0, 1)) rfl ?_
  refine re_bipush (pc := 26) (40 : Int32) (by decide +kernel : decode cX6_init 26 = .ok (.bipush 40, 2)) (by decide) ?_
  refine re_newa (pc := 28) (t := 0) (N := 40) rfl (rv_alv (List.forall_mem_cons.mpr ⟨o24_, (fun _ z => absurd z List.not_mem_nil)⟩)) ((List.forall_mem_cons.mpr ⟨o24_, (fun _ z => absurd z List.not_mem_nil)⟩)) (by decide) rfl (rw1 137 (by decide +kernel) rfl) (by decide) (by decide) (by decide) (by decide +kernel : decode cX6_init 28 = .ok (.newarray .int, 2)) ?_
  obtain ⟨a27_, g28_, h⟩ := rv_lt_e h
  refine re_nR g28_ ?_
  obtain ⟨S29_, g30_, h⟩ := rv_lt_e h
  refine re_nS g30_ ?_
  have o31_ : a0 < 64 + S29_.1.length := rv_okn g30_ o24_
  have o32_ : a5_ < 64 + S29_.1.length := rv_okn g30_ o25_
  have o33_ : a15_ < 64 + S29_.1.length := rv_okn g30_ o26_
  have o34_ : a27_ < 64 + S29_.1.length := by rw [← g28_]; exact rv_okn0 g30_
  obtain ⟨S35_, g36_, h⟩ := rv_b_e h
  have o37_ : a0 < 64 + S35_.1.length := by rw [rv_pR_sh g36_]; exact o31_
  have o38_ : a5_ < 64 + S35_.1.length := by rw [rv_pR_sh g36_]; exact o32_
  have o39_ : a15_ < 64 + S35_.1.length := by rw [rv_pR_sh g36_]; exact o33_
  have o40_ : a27_ < 64 + S35_.1.length := by rw [rv_pR_sh g36_]; exact o34_
  refine re_pR (pc := 30) g36_ lfX6_22 rfl (Or.inr ⟨rfl, rfl, rfl, (rw1 167 (by decide +kernel) rfl)⟩) (by decide +kernel : decode cX6_init 30 = .ok (.putfield 22, 3)) ?_
  cases h
  exact re_vret (by decide +kernel : decode cX6_init 33 = .ok (.return_, 1))
theorem metX6_init (n : Nat) (S : rvS) (a0 : Nat) (S' : rvS) (h : fnX6_init n S a0 = some S') : rv_Met yX6_init mX6_init 1 [.ref a0] S none S' := rv_Met.of ⟨by decide +kernel, rfl, (fun z => by first | rfl | cases z), rfl⟩ (Nat.le_of_ble_eq_true rfl) rfl (eX6_init_in n S a0 S' h)
noncomputable def cX4_init_36 (n : Nat) : Nat → rvS → Nat → Int32 → Option rvS
  | 0, _, _, _ => none
  | k + 1, S, a0, x1 =>
    (rv_vl S a0).bind fun _ =>
    if (5 : Int32) < x1 then (
      some S)
    else (
      (rv_gV S 3 a0 0).bind fun a3_ =>
      rv_lt (64 + S.1.length) fun a6_ =>
      rv_lt (rv_new S (5, rv_N 5)) fun S8_ =>
      (fnX6_init n S8_ a6_).bind fun S14_ =>
      (rv_uQ S14_ 6 5 a3_ x1 a6_).bind fun S19_ =>
      rv_lt (x1 + (1)) fun x24_ =>
      cX4_init_36 n k S19_ a0 x24_)
set_option maxRecDepth 20000 in
set_option maxHeartbeats 4000000 in
theorem eX4_init_36 (n : Nat) : ∀ (k : Nat) (S : rvS) (a0 : Nat) (x1 : Int32) (S' : rvS), cX4_init_36 n k S a0 x1 = some S' → rv_Ev mX4_init 2 36 [(0, .ref a0), (1, .int x1)] [] S none S' := by
  intro k
  induction k with
  | zero => intro S a0 x1 S' h; exact absurd h (by simp [cX4_init_36])
  | succ k ih =>
    intro S a0 x1 S' h
    unfold cX4_init_36 at h
    obtain ⟨_, g1_, h⟩ := rv_b_e h
    refine re_iloadn (pc := 36) 1 (by decide +kernel : decode cX4_init 36 = .ok (.iload_n 1, 1)) rfl ?_
    refine re_iconst (pc := 37) (5 : Int32) (by decide +kernel : decode cX4_init 37 = .ok (.iconst 5, 1)) (by decide) ?_
    rcases rv_if_e h with ⟨g2_, h⟩ | ⟨g2_, h⟩
    · refine re_icmp_gt_t (pc := 38) 60 (by decide +kernel : decode cX4_init 38 = .ok (.if_icmp .gt 22, 3)) (by decide) g2_ ?_
      cases h
      exact re_vret (by decide +kernel : decode cX4_init 60 = .ok (.return_, 1))
    · refine re_icmp_gt_f (pc := 38) 60 (by decide +kernel : decode cX4_init 38 = .ok (.if_icmp .gt 22, 3)) (by decide) g2_ ?_
      refine re_aloadn (pc := 41) 0 (by decide +kernel : decode cX4_init 41 = .ok (.aload_n 0, 1)) rfl ?_
      obtain ⟨a3_, g4_, h⟩ := rv_b_e h
      have o5_ := (rv_gV_e g4_).2
      refine re_gR (pc := 42) (rv_gV_e g4_).1 lfX4_13 rfl (by decide +kernel : decode cX4_init 42 = .ok (.getfield 13, 3)) ?_
      refine re_iloadn (pc := 45) 1 (by decide +kernel : decode cX4_init 45 = .ok (.iload_n 1, 1)) rfl ?_
      refine re_new (pc := 46) (c := 5) rfl (rv_alv (List.forall_mem_cons.mpr ⟨(rv_vl_e g1_), (List.forall_mem_cons.mpr ⟨trivial, (fun _ z => absurd z List.not_mem_nil)⟩)⟩)) ((List.forall_mem_cons.mpr ⟨trivial, (List.forall_mem_cons.mpr ⟨o5_, (fun _ z => absurd z List.not_mem_nil)⟩)⟩)) (by decide) (rw2 88 (by decide +kernel) rfl) (rw1 140 (by decide +kernel) rfl) (rw1 7 (by decide +kernel) rfl) (by decide +kernel : decode cX4_init 46 = .ok (.new 11, 3)) ?_
      obtain ⟨a6_, g7_, h⟩ := rv_lt_e h
      refine re_nR g7_ ?_
      obtain ⟨S8_, g9_, h⟩ := rv_lt_e h
      refine re_nS g9_ ?_
      have o10_ : a0 < 64 + S8_.1.length := rv_okn g9_ (rv_vl_e g1_)
      have o11_ : a3_ < 64 + S8_.1.length := rv_okn g9_ o5_
      have o12_ : a6_ < 64 + S8_.1.length := by rw [← g7_]; exact rv_okn0 g9_
      refine re_dup (pc := 49) (by decide +kernel : decode cX4_init 49 = .ok (.dup, 1)) rfl ?_
      obtain ⟨S14_, g15_, h⟩ := rv_b_e h
      have m13_ := metX6_init n S8_ a6_ _ g15_
      have o16_ : a0 < 64 + S14_.1.length := Nat.lt_of_lt_of_le o10_ (Nat.add_le_add_left m13_.1.2.1 64)
      have o17_ : a3_ < 64 + S14_.1.length := Nat.lt_of_lt_of_le o11_ (Nat.add_le_add_left m13_.1.2.1 64)
      have o18_ : a6_ < 64 + S14_.1.length := Nat.lt_of_lt_of_le o12_ (Nat.add_le_add_left m13_.1.2.1 64)
      refine re_cI (pc := 50) (st := [.ref a6_, .int x1, .ref a3_]) [] m13_ (rv_okl.n (rv_alv (List.forall_mem_cons.mpr ⟨o10_, (List.forall_mem_cons.mpr ⟨trivial, (fun _ z => absurd z List.not_mem_nil)⟩)⟩)) ((List.forall_mem_cons.mpr ⟨o12_, (List.forall_mem_cons.mpr ⟨trivial, (List.forall_mem_cons.mpr ⟨o11_, (fun _ z => absurd z List.not_mem_nil)⟩)⟩)⟩))) ⟨fun z => absurd z (by decide), m13_.1.2⟩ (by decide) (Nat.le_of_ble_eq_true rfl) lIX4_27 rfl (by decide +kernel : decode cX4_init 50 = .ok (.invokespecial 27, 3)) ?_
      obtain ⟨S19_, g20_, h⟩ := rv_b_e h
      have o21_ : a0 < 64 + S19_.1.length := by rw [rv_uQ_sh g20_]; exact o16_
      have o22_ : a3_ < 64 + S19_.1.length := by rw [rv_uQ_sh g20_]; exact o17_
      have o23_ : a6_ < 64 + S19_.1.length := by rw [rv_uQ_sh g20_]; exact o18_
      refine re_uQ (pc := 53) (t := 2) (c := 5) (by decide) g20_ (by decide +kernel : decode cX4_init 53 = .ok (.aastore, 1)) ?_
      obtain ⟨x24_, g25_, h⟩ := rv_lt_e h
      refine re_iinc (pc := 54) 1 x24_ (lv1 := [(1, .int x24_), (0, .ref a0)]) (by decide +kernel : decode cX4_init 54 = .ok (.iinc 1 1, 3)) rfl g25_ (by decide) rfl ?_
      refine re_goto (pc := 57) 36 (by decide +kernel : decode cX4_init 57 = .ok (.goto (-21), 3)) (by decide) ?_
      refine re_sub [1, 0] (lv1 := [(0, .ref a0), (1, .int x24_)]) rfl ?_
      exact ih S19_ a0 x24_ _ h
noncomputable def fnX4_init (n : Nat) (S : rvS) (a0 : Nat) : Option rvS :=
  (rv_vl S a0).bind fun _ =>
  rv_lt (64 + S.1.length) fun a2_ =>
  rv_lt (rv_new S (56, 6)) fun S4_ =>
  (rv_pR S4_ 3 a0 0 a2_).bind fun S8_ =>
  rv_lt (64 + S8_.1.length) fun a12_ =>
  rv_lt (rv_new S8_ (50, 5)) fun S14_ =>
  (rv_pR S14_ 3 a0 1 a12_).bind fun S19_ =>
  rv_lt (64 + S19_.1.length) fun a24_ =>
  rv_lt (rv_new S19_ (50, 5)) fun S26_ =>
  (rv_pR S26_ 3 a0 2 a24_).bind fun S32_ =>
  rv_lt (64 + S32_.1.length) fun a38_ =>
  rv_lt (rv_new S32_ (50, 5)) fun S40_ =>
  (rv_pR S40_ 3 a0 3 a38_).bind fun S47_ =>
  cX4_init_36 n n S47_ a0 (0 : Int32)
set_option maxRecDepth 20000 in
set_option maxHeartbeats 4000000 in
theorem eX4_init_in (n : Nat) (S : rvS) (a0 : Nat) (S' : rvS) (h : fnX4_init n S a0 = some S') : rv_Ev mX4_init 2 0 [(0, .ref a0)] [] S none S' := by
  unfold fnX4_init at h
  obtain ⟨_, g1_, h⟩ := rv_b_e h
  refine re_aloadn (pc := 0) 0 (by decide +kernel : decode cX4_init 0 = .ok (.aload_n 0, 1)) rfl ?_
  refine re_obj (pc := 1) (rw2 87 (by decide +kernel) rfl) rwoi rwoc (Nat.le_of_ble_eq_true rfl) (by decide) (by decide +kernel : decode cX4_init 1 = .ok (.invokespecial 3, 3)) ?_
  refine re_aloadn (pc := 4) 0 (by decide +kernel : decode cX4_init 4 = .ok (.aload_n 0, 1)) rfl ?_
  refine re_bipush (pc := 5) (6 : Int32) (by decide +kernel : decode cX4_init 5 = .ok (.bipush 6, 2)) (by decide) ?_
  refine re_newq (pc := 7) (t := 2) (N := 6) rfl (rv_alv (List.forall_mem_cons.mpr ⟨(rv_vl_e g1_), (fun _ z => absurd z List.not_mem_nil)⟩)) ((List.forall_mem_cons.mpr ⟨(rv_vl_e g1_), (fun _ z => absurd z List.not_mem_nil)⟩)) (by decide) rfl (rw2 88 (by decide +kernel) rfl) (by decide) (by decide) (by decide) (by decide +kernel : decode cX4_init 7 = .ok (.anewarray 11, 3)) ?_
  obtain ⟨a2_, g3_, h⟩ := rv_lt_e h
  refine re_nR g3_ ?_
  obtain ⟨S4_, g5_, h⟩ := rv_lt_e h
  refine re_nS g5_ ?_
  have o6_ : a0 < 64 + S4_.1.length := rv_okn g5_ (rv_vl_e g1_)
  have o7_ : a2_ < 64 + S4_.1.length := by rw [← g3_]; exact rv_okn0 g5_
  obtain ⟨S8_, g9_, h⟩ := rv_b_e h
  have o10_ : a0 < 64 + S8_.1.length := by rw [rv_pR_sh g9_]; exact o6_
  have o11_ : a2_ < 64 + S8_.1.length := by rw [rv_pR_sh g9_]; exact o7_
  refine re_pR (pc := 10) g9_ lfX4_13 rfl (Or.inr ⟨rfl, rfl, rfl, (rw2 91 (by decide +kernel) rfl)⟩) (by decide +kernel : decode cX4_init 10 = .ok (.putfield 13, 3)) ?_
  refine re_aloadn (pc := 13) 0 (by decide +kernel : decode cX4_init 13 = .ok (.aload_n 0, 1)) rfl ?_
  refine re_iconst (pc := 14) (5 : Int32) (by decide +kernel : decode cX4_init 14 = .ok (.iconst 5, 1)) (by decide) ?_
  refine re_newa (pc := 15) (t := 0) (N := 5) rfl (rv_alv (List.forall_mem_cons.mpr ⟨o10_, (fun _ z => absurd z List.not_mem_nil)⟩)) ((List.forall_mem_cons.mpr ⟨o10_, (fun _ z => absurd z List.not_mem_nil)⟩)) (by decide) rfl (rw1 137 (by decide +kernel) rfl) (by decide) (by decide) (by decide) (by decide +kernel : decode cX4_init 15 = .ok (.newarray .int, 2)) ?_
  obtain ⟨a12_, g13_, h⟩ := rv_lt_e h
  refine re_nR g13_ ?_
  obtain ⟨S14_, g15_, h⟩ := rv_lt_e h
  refine re_nS g15_ ?_
  have o16_ : a0 < 64 + S14_.1.length := rv_okn g15_ o10_
  have o17_ : a2_ < 64 + S14_.1.length := rv_okn g15_ o11_
  have o18_ : a12_ < 64 + S14_.1.length := by rw [← g13_]; exact rv_okn0 g15_
  obtain ⟨S19_, g20_, h⟩ := rv_b_e h
  have o21_ : a0 < 64 + S19_.1.length := by rw [rv_pR_sh g20_]; exact o16_
  have o22_ : a2_ < 64 + S19_.1.length := by rw [rv_pR_sh g20_]; exact o17_
  have o23_ : a12_ < 64 + S19_.1.length := by rw [rv_pR_sh g20_]; exact o18_
  refine re_pR (pc := 17) g20_ lfX4_17 rfl (Or.inr ⟨rfl, rfl, rfl, (rw2 92 (by decide +kernel) rfl)⟩) (by decide +kernel : decode cX4_init 17 = .ok (.putfield 17, 3)) ?_
  refine re_aloadn (pc := 20) 0 (by decide +kernel : decode cX4_init 20 = .ok (.aload_n 0, 1)) rfl ?_
  refine re_iconst (pc := 21) (5 : Int32) (by decide +kernel : decode cX4_init 21 = .ok (.iconst 5, 1)) (by decide) ?_
  refine re_newa (pc := 22) (t := 0) (N := 5) rfl (rv_alv (List.forall_mem_cons.mpr ⟨o21_, (fun _ z => absurd z List.not_mem_nil)⟩)) ((List.forall_mem_cons.mpr ⟨o21_, (fun _ z => absurd z List.not_mem_nil)⟩)) (by decide) rfl (rw1 137 (by decide +kernel) rfl) (by decide) (by decide) (by decide) (by decide +kernel : decode cX4_init 22 = .ok (.newarray .int, 2)) ?_
  obtain ⟨a24_, g25_, h⟩ := rv_lt_e h
  refine re_nR g25_ ?_
  obtain ⟨S26_, g27_, h⟩ := rv_lt_e h
  refine re_nS g27_ ?_
  have o28_ : a0 < 64 + S26_.1.length := rv_okn g27_ o21_
  have o29_ : a2_ < 64 + S26_.1.length := rv_okn g27_ o22_
  have o30_ : a12_ < 64 + S26_.1.length := rv_okn g27_ o23_
  have o31_ : a24_ < 64 + S26_.1.length := by rw [← g25_]; exact rv_okn0 g27_
  obtain ⟨S32_, g33_, h⟩ := rv_b_e h
  have o34_ : a0 < 64 + S32_.1.length := by rw [rv_pR_sh g33_]; exact o28_
  have o35_ : a2_ < 64 + S32_.1.length := by rw [rv_pR_sh g33_]; exact o29_
  have o36_ : a12_ < 64 + S32_.1.length := by rw [rv_pR_sh g33_]; exact o30_
  have o37_ : a24_ < 64 + S32_.1.length := by rw [rv_pR_sh g33_]; exact o31_
  refine re_pR (pc := 24) g33_ lfX4_21 rfl (Or.inr ⟨rfl, rfl, rfl, (rw2 93 (by decide +kernel) rfl)⟩) (by decide +kernel : decode cX4_init 24 = .ok (.putfield 21, 3)) ?_
  refine re_aloadn (pc := 27) 0 (by decide +kernel : decode cX4_init 27 = .ok (.aload_n 0, 1)) rfl ?_
  refine re_iconst (pc := 28) (5 : Int32) (by decide +kernel : decode cX4_init 28 = .ok (.iconst 5, 1)) (by decide) ?_
  refine re_newa (pc := 29) (t := 0) (N := 5) rfl (rv_alv (List.forall_mem_cons.mpr ⟨o34_, (fun _ z => absurd z List.not_mem_nil)⟩)) ((List.forall_mem_cons.mpr ⟨o34_, (fun _ z => absurd z List.not_mem_nil)⟩)) (by decide) rfl (rw1 137 (by decide +kernel) rfl) (by decide) (by decide) (by decide) (by decide +kernel : decode cX4_init 29 = .ok (.newarray .int, 2)) ?_
  obtain ⟨a38_, g39_, h⟩ := rv_lt_e h
  refine re_nR g39_ ?_
  obtain ⟨S40_, g41_, h⟩ := rv_lt_e h
  refine re_nS g41_ ?_
  have o42_ : a0 < 64 + S40_.1.length := rv_okn g41_ o34_
  have o43_ : a2_ < 64 + S40_.1.length := rv_okn g41_ o35_
  have o44_ : a12_ < 64 + S40_.1.length := rv_okn g41_ o36_
  have o45_ : a24_ < 64 + S40_.1.length := rv_okn g41_ o37_
  have o46_ : a38_ < 64 + S40_.1.length := by rw [← g39_]; exact rv_okn0 g41_
  obtain ⟨S47_, g48_, h⟩ := rv_b_e h
  have o49_ : a0 < 64 + S47_.1.length := by rw [rv_pR_sh g48_]; exact o42_
  have o50_ : a2_ < 64 + S47_.1.length := by rw [rv_pR_sh g48_]; exact o43_
  have o51_ : a12_ < 64 + S47_.1.length := by rw [rv_pR_sh g48_]; exact o44_
  have o52_ : a24_ < 64 + S47_.1.length := by rw [rv_pR_sh g48_]; exact o45_
  have o53_ : a38_ < 64 + S47_.1.length := by rw [rv_pR_sh g48_]; exact o46_
  refine re_pR (pc := 31) g48_ lfX4_24 rfl (Or.inr ⟨rfl, rfl, rfl, (rw2 94 (by decide +kernel) rfl)⟩) (by decide +kernel : decode cX4_init 31 = .ok (.putfield 24, 3)) ?_
  refine re_iconst (pc := 34) (0 : Int32) (by decide +kernel : decode cX4_init 34 = .ok (.iconst 0, 1)) (by decide) ?_
  refine re_istoren (pc := 35) (lv1 := [(1, .int (0 : Int32)), (0, .ref a0)]) (by decide +kernel : decode cX4_init 35 = .ok (.istore_n 1, 1)) rfl (by decide) rfl ?_
  refine re_sub [1, 0] (lv1 := [(0, .ref a0), (1, .int (0 : Int32))]) rfl ?_
  exact eX4_init_36 n n S47_ a0 (0 : Int32) _ h
theorem metX4_init (n : Nat) (S : rvS) (a0 : Nat) (S' : rvS) (h : fnX4_init n S a0 = some S') : rv_Met yX4_init mX4_init 2 [.ref a0] S none S' := rv_Met.of ⟨by decide +kernel, rfl, (fun z => by first | rfl | cases z), rfl⟩ (Nat.le_of_ble_eq_true rfl) rfl (eX4_init_in n S a0 S' h)
noncomputable def fnX8_signAt (n : Nat) (S : rvS) (a0 : Nat) (x1 : Int32) : Option Int32 :=
  if x1 < 0 then (
    some (0 : Int32))
  else (
    (rv_gI S 7 a0 1).bind fun x2_ =>
    if x2_ ≤ x1 then (
      some (0 : Int32))
    else (
      if (940 : Int32) ≤ x1 then (
        some (0 : Int32))
      else (
        (rv_gR S 7 a0 0).bind fun a6_ =>
        (rv_aI S 2 a6_ x1).bind fun x8_ =>
        some (x8_ &&& (255 : Int32)))))
set_option maxRecDepth 20000 in
set_option maxHeartbeats 4000000 in
theorem eX8_signAt_in (n : Nat) (S : rvS) (a0 : Nat) (x1 : Int32) (r : Int32) (h : fnX8_signAt n S a0 x1 = some r) : rv_Ev mX8_signAt 0 0 [(0, .ref a0), (1, .int x1)] [] S (some (.int r)) S := by
  unfold fnX8_signAt at h
  refine re_iloadn (pc := 0) 1 (by decide +kernel : decode cX8_signAt 0 = .ok (.iload_n 1, 1)) rfl ?_
  rcases rv_if_e h with ⟨g1_, h⟩ | ⟨g1_, h⟩
  · refine re_if_lt_t (pc := 1) 32 (by decide +kernel : decode cX8_signAt 1 = .ok (.ifCond .lt 31, 3)) (by decide) g1_ ?_
    refine re_iconst (pc := 32) (0 : Int32) (by decide +kernel : decode cX8_signAt 32 = .ok (.iconst 0, 1)) (by decide) ?_
    cases h
    exact re_iret (fun ty hty => by cases hty; rfl) (by decide +kernel : decode cX8_signAt 33 = .ok (.ireturn, 1))
  · refine re_if_lt_f (pc := 1) 32 (by decide +kernel : decode cX8_signAt 1 = .ok (.ifCond .lt 31, 3)) (by decide) g1_ ?_
    refine re_iloadn (pc := 4) 1 (by decide +kernel : decode cX8_signAt 4 = .ok (.iload_n 1, 1)) rfl ?_
    refine re_aloadn (pc := 5) 0 (by decide +kernel : decode cX8_signAt 5 = .ok (.aload_n 0, 1)) rfl ?_
    obtain ⟨x2_, g3_, h⟩ := rv_b_e h
    refine re_gI (pc := 6) g3_ lfX8_22 rfl (by decide +kernel : decode cX8_signAt 6 = .ok (.getfield 22, 3)) ?_
    rcases rv_if_e h with ⟨g4_, h⟩ | ⟨g4_, h⟩
    · refine re_icmp_ge_t (pc := 9) 32 (by decide +kernel : decode cX8_signAt 9 = .ok (.if_icmp .ge 23, 3)) (by decide) g4_ ?_
      refine re_iconst (pc := 32) (0 : Int32) (by decide +kernel : decode cX8_signAt 32 = .ok (.iconst 0, 1)) (by decide) ?_
      cases h
      exact re_iret (fun ty hty => by cases hty; rfl) (by decide +kernel : decode cX8_signAt 33 = .ok (.ireturn, 1))
    · refine re_icmp_ge_f (pc := 9) 32 (by decide +kernel : decode cX8_signAt 9 = .ok (.if_icmp .ge 23, 3)) (by decide) g4_ ?_
      refine re_iloadn (pc := 12) 1 (by decide +kernel : decode cX8_signAt 12 = .ok (.iload_n 1, 1)) rfl ?_
      refine re_sipush (pc := 13) (940 : Int32) (by decide +kernel : decode cX8_signAt 13 = .ok (.sipush 940, 3)) (by decide) ?_
      rcases rv_if_e h with ⟨g5_, h⟩ | ⟨g5_, h⟩
      · refine re_icmp_ge_t (pc := 16) 32 (by decide +kernel : decode cX8_signAt 16 = .ok (.if_icmp .ge 16, 3)) (by decide) g5_ ?_
        refine re_iconst (pc := 32) (0 : Int32) (by decide +kernel : decode cX8_signAt 32 = .ok (.iconst 0, 1)) (by decide) ?_
        cases h
        exact re_iret (fun ty hty => by cases hty; rfl) (by decide +kernel : decode cX8_signAt 33 = .ok (.ireturn, 1))
      · refine re_icmp_ge_f (pc := 16) 32 (by decide +kernel : decode cX8_signAt 16 = .ok (.if_icmp .ge 16, 3)) (by decide) g5_ ?_
        refine re_aloadn (pc := 19) 0 (by decide +kernel : decode cX8_signAt 19 = .ok (.aload_n 0, 1)) rfl ?_
        obtain ⟨a6_, g7_, h⟩ := rv_b_e h
        refine re_gR (pc := 20) g7_ lfX8_9 rfl (by decide +kernel : decode cX8_signAt 20 = .ok (.getfield 9, 3)) ?_
        refine re_iloadn (pc := 23) 1 (by decide +kernel : decode cX8_signAt 23 = .ok (.iload_n 1, 1)) rfl ?_
        obtain ⟨x8_, g9_, h⟩ := rv_b_e h
        refine re_aB (pc := 24) g9_ (by decide +kernel : decode cX8_signAt 24 = .ok (.baload, 1)) ?_
        refine re_sipush (pc := 25) (255 : Int32) (by decide +kernel : decode cX8_signAt 25 = .ok (.sipush 255, 3)) (by decide) ?_
        refine re_iand (pc := 28) (by decide +kernel : decode cX8_signAt 28 = .ok (.iand, 1)) ?_
        refine re_goto (pc := 29) 33 (by decide +kernel : decode cX8_signAt 29 = .ok (.goto 4, 3)) (by decide) ?_
        cases h
        exact re_iret (fun ty hty => by cases hty; rfl) (by decide +kernel : decode cX8_signAt 33 = .ok (.ireturn, 1))
theorem metX8_signAt (n : Nat) (S : rvS) (a0 : Nat) (x1 : Int32) (r : Int32) (h : fnX8_signAt n S a0 x1 = some r) : rv_Met yX8_signAt mX8_signAt 0 [.ref a0, .int x1] S (some (.int r)) S := rv_Met.of ⟨by decide +kernel, rfl, (fun z => by first | rfl | cases z), rfl⟩ (Nat.le_of_ble_eq_true rfl) rfl (eX8_signAt_in n S a0 x1 r h)
noncomputable def fnX9_isCleared (n : Nat) (S : rvS) (a0 : Nat) (x1 : Int32) : Option Int32 :=
  (rv_gI S 8 a0 7).bind fun x1_ =>
  if (((x1_.toUInt32 >>> (x1.toUInt32 &&& Int32.toUInt32 31)).toInt32) &&& (1 : Int32)) = 0 then (
    some (0 : Int32))
  else (
    some (1 : Int32))
set_option maxRecDepth 20000 in
set_option maxHeartbeats 4000000 in
theorem eX9_isCleared_in (n : Nat) (S : rvS) (a0 : Nat) (x1 : Int32) (r : Int32) (h : fnX9_isCleared n S a0 x1 = some r) : rv_Ev mX9_isCleared 0 0 [(0, .ref a0), (1, .int x1)] [] S (some (.int r)) S := by
  unfold fnX9_isCleared at h
  refine re_aloadn (pc := 0) 0 (by decide +kernel : decode cX9_isCleared 0 = .ok (.aload_n 0, 1)) rfl ?_
  obtain ⟨x1_, g2_, h⟩ := rv_b_e h
  refine re_gI (pc := 1) g2_ lfX9_59 rfl (by decide +kernel : decode cX9_isCleared 1 = .ok (.getfield 59, 3)) ?_
  refine re_iloadn (pc := 4) 1 (by decide +kernel : decode cX9_isCleared 4 = .ok (.iload_n 1, 1)) rfl ?_
  refine re_iushr (pc := 5) (by decide +kernel : decode cX9_isCleared 5 = .ok (.iushr, 1)) ?_
  refine re_iconst (pc := 6) (1 : Int32) (by decide +kernel : decode cX9_isCleared 6 = .ok (.iconst 1, 1)) (by decide) ?_
  refine re_iand (pc := 7) (by decide +kernel : decode cX9_isCleared 7 = .ok (.iand, 1)) ?_
  rcases rv_if_e h with ⟨g3_, h⟩ | ⟨g3_, h⟩
  · refine re_if_eq_t (pc := 8) 15 (by decide +kernel : decode cX9_isCleared 8 = .ok (.ifCond .eq 7, 3)) (by decide) g3_ ?_
    refine re_iconst (pc := 15) (0 : Int32) (by decide +kernel : decode cX9_isCleared 15 = .ok (.iconst 0, 1)) (by decide) ?_
    cases h
    exact re_iret (fun ty hty => by cases hty; rfl) (by decide +kernel : decode cX9_isCleared 16 = .ok (.ireturn, 1))
  · refine re_if_eq_f (pc := 8) 15 (by decide +kernel : decode cX9_isCleared 8 = .ok (.ifCond .eq 7, 3)) (by decide) g3_ ?_
    refine re_iconst (pc := 11) (1 : Int32) (by decide +kernel : decode cX9_isCleared 11 = .ok (.iconst 1, 1)) (by decide) ?_
    refine re_goto (pc := 12) 16 (by decide +kernel : decode cX9_isCleared 12 = .ok (.goto 4, 3)) (by decide) ?_
    cases h
    exact re_iret (fun ty hty => by cases hty; rfl) (by decide +kernel : decode cX9_isCleared 16 = .ok (.ireturn, 1))
theorem metX9_isCleared (n : Nat) (S : rvS) (a0 : Nat) (x1 : Int32) (r : Int32) (h : fnX9_isCleared n S a0 x1 = some r) : rv_Met yX9_isCleared mX9_isCleared 0 [.ref a0, .int x1] S (some (.int r)) S := rv_Met.of ⟨by decide +kernel, rfl, (fun z => by first | rfl | cases z), rfl⟩ (Nat.le_of_ble_eq_true rfl) rfl (eX9_isCleared_in n S a0 x1 r h)
noncomputable def cX4_take_23 (n : Nat) : Nat → rvS → Nat → Nat → Nat → Int32 → Int32 → Option (Int32 × rvS)
  | 0, _, _, _, _, _, _ => none
  | k + 1, S, a0, a1, a2, x3, x4 =>
    (rv_gI S 7 a1 1).bind fun x1_ =>
    if x1_ ≤ x4 then (
      (rv_gI S 7 a1 1).bind fun x4_ =>
      (rv_pI S 3 a0 4 x4_).bind fun S6_ =>
      some ((1 : Int32), S6_))
    else (
      if (5 : Int32) ≤ x4 then (
        (rv_gI S 7 a1 1).bind fun x9_ =>
        (rv_pI S 3 a0 4 x9_).bind fun S11_ =>
        some ((1 : Int32), S11_))
      else (
        (rv_ck S 7 a1).bind fun u13_ =>
        (fnX8_signAt n S a1 x4).bind fun x16_ =>
        (rv_gI S 8 a2 6).bind fun x18_ =>
        if x18_ ≤ x16_ then (
          some ((0 : Int32), S))
        else (
          (rv_ck S 8 a2).bind fun u21_ =>
          (fnX9_isCleared n S a2 x16_).bind fun x24_ =>
          if x24_ = 0 then (
            if (((x3.toUInt32 >>> (x16_.toUInt32 &&& Int32.toUInt32 31)).toInt32) &&& (1 : Int32)) = 0 then (
              rv_lt (x3 ||| ((1 : Int32) <<< (x16_ &&& 31))) fun x28_ =>
              (rv_gR S 3 a0 1).bind fun a30_ =>
              (rv_uI S a30_ x4 x16_).bind fun S32_ =>
              rv_lt (x4 + (1)) fun x34_ =>
              cX4_take_23 n k S32_ a0 a1 a2 x28_ x34_)
            else (
              some ((0 : Int32), S)))
          else (
            some ((0 : Int32), S)))))
set_option maxRecDepth 20000 in
set_option maxHeartbeats 4000000 in
theorem eX4_take_23 (n : Nat) : ∀ (k : Nat) (S : rvS) (a0 : Nat) (a1 : Nat) (a2 : Nat) (x3 : Int32) (x4 : Int32) (r : Int32) (S' : rvS), cX4_take_23 n k S a0 a1 a2 x3 x4 = some (r, S') → rv_Ev mX4_take 1 23 [(0, .ref a0), (1, .ref a1), (2, .ref a2), (3, .int x3), (4, .int x4)] [] S (some (.int r)) S' := by
  intro k
  induction k with
  | zero => intro S a0 a1 a2 x3 x4 r S' h; exact absurd h (by simp [cX4_take_23])
  | succ k ih =>
    intro S a0 a1 a2 x3 x4 r S' h
    unfold cX4_take_23 at h
    refine re_iload (pc := 23) 4 (by decide +kernel : decode cX4_take 23 = .ok (.iload 4, 2)) rfl ?_
    refine re_aloadn (pc := 25) 1 (by decide +kernel : decode cX4_take 25 = .ok (.aload_n 1, 1)) rfl ?_
    obtain ⟨x1_, g2_, h⟩ := rv_b_e h
    refine re_gI (pc := 26) g2_ lfX4_28 rfl (by decide +kernel : decode cX4_take 26 = .ok (.getfield 28, 3)) ?_
    rcases rv_if_e h with ⟨g3_, h⟩ | ⟨g3_, h⟩
    · refine re_icmp_ge_t (pc := 29) 97 (by decide +kernel : decode cX4_take 29 = .ok (.if_icmp .ge 68, 3)) (by decide) g3_ ?_
      refine re_aloadn (pc := 97) 0 (by decide +kernel : decode cX4_take 97 = .ok (.aload_n 0, 1)) rfl ?_
      refine re_aloadn (pc := 98) 1 (by decide +kernel : decode cX4_take 98 = .ok (.aload_n 1, 1)) rfl ?_
      obtain ⟨x4_, g5_, h⟩ := rv_b_e h
      refine re_gI (pc := 99) g5_ lfX4_28 rfl (by decide +kernel : decode cX4_take 99 = .ok (.getfield 28, 3)) ?_
      obtain ⟨S6_, g7_, h⟩ := rv_b_e h
      refine re_pI (pc := 102) g7_ lfX4_47 rfl rfl rfl rfl (by decide +kernel : decode cX4_take 102 = .ok (.putfield 47, 3)) ?_
      refine re_iconst (pc := 105) (1 : Int32) (by decide +kernel : decode cX4_take 105 = .ok (.iconst 1, 1)) (by decide) ?_
      cases h
      exact re_iret (fun ty hty => by cases hty; rfl) (by decide +kernel : decode cX4_take 106 = .ok (.ireturn, 1))
    · refine re_icmp_ge_f (pc := 29) 97 (by decide +kernel : decode cX4_take 29 = .ok (.if_icmp .ge 68, 3)) (by decide) g3_ ?_
      refine re_iload (pc := 32) 4 (by decide +kernel : decode cX4_take 32 = .ok (.iload 4, 2)) rfl ?_
      refine re_iconst (pc := 34) (5 : Int32) (by decide +kernel : decode cX4_take 34 = .ok (.iconst 5, 1)) (by decide) ?_
      rcases rv_if_e h with ⟨g8_, h⟩ | ⟨g8_, h⟩
      · refine re_icmp_ge_t (pc := 35) 97 (by decide +kernel : decode cX4_take 35 = .ok (.if_icmp .ge 62, 3)) (by decide) g8_ ?_
        refine re_aloadn (pc := 97) 0 (by decide +kernel : decode cX4_take 97 = .ok (.aload_n 0, 1)) rfl ?_
        refine re_aloadn (pc := 98) 1 (by decide +kernel : decode cX4_take 98 = .ok (.aload_n 1, 1)) rfl ?_
        obtain ⟨x9_, g10_, h⟩ := rv_b_e h
        refine re_gI (pc := 99) g10_ lfX4_28 rfl (by decide +kernel : decode cX4_take 99 = .ok (.getfield 28, 3)) ?_
        obtain ⟨S11_, g12_, h⟩ := rv_b_e h
        refine re_pI (pc := 102) g12_ lfX4_47 rfl rfl rfl rfl (by decide +kernel : decode cX4_take 102 = .ok (.putfield 47, 3)) ?_
        refine re_iconst (pc := 105) (1 : Int32) (by decide +kernel : decode cX4_take 105 = .ok (.iconst 1, 1)) (by decide) ?_
        cases h
        exact re_iret (fun ty hty => by cases hty; rfl) (by decide +kernel : decode cX4_take 106 = .ok (.ireturn, 1))
      · refine re_icmp_ge_f (pc := 35) 97 (by decide +kernel : decode cX4_take 35 = .ok (.if_icmp .ge 62, 3)) (by decide) g8_ ?_
        refine re_aloadn (pc := 38) 1 (by decide +kernel : decode cX4_take 38 = .ok (.aload_n 1, 1)) rfl ?_
        refine re_iload (pc := 39) 4 (by decide +kernel : decode cX4_take 39 = .ok (.iload 4, 2)) rfl ?_
        obtain ⟨u13_, g14_, h⟩ := rv_b_e h
        obtain ⟨x16_, g17_, h⟩ := rv_b_e h
        have m15_ := metX8_signAt n S a1 x4 _ g17_
        refine re_cV (pc := 41) [.int x4] m15_ (rv_okl.k ⟨rfl, rfl⟩) (rv_up.rf _ _) (by decide) (rv_ck_e g14_) ⟨by decide, rfl⟩ (Nat.le_of_ble_eq_true rfl) lVX4_34 rfl (by decide +kernel : decode cX4_take 41 = .ok (.invokevirtual 34, 3)) ?_
        refine re_istore (pc := 44) (lv1 := [(5, .int x16_), (0, .ref a0), (1, .ref a1), (2, .ref a2), (3, .int x3), (4, .int x4)]) (by decide +kernel : decode cX4_take 44 = .ok (.istore 5, 2)) (by decide) rfl ?_
        refine re_iload (pc := 46) 0 (by decide +kernel : decode cX4_take 46 = .ok (.iload 5, 2)) rfl ?_
        refine re_aloadn (pc := 48) 3 (by decide +kernel : decode cX4_take 48 = .ok (.aload_n 2, 1)) rfl ?_
        obtain ⟨x18_, g19_, h⟩ := rv_b_e h
        refine re_gI (pc := 49) g19_ lfX4_38 rfl (by decide +kernel : decode cX4_take 49 = .ok (.getfield 38, 3)) ?_
        rcases rv_if_e h with ⟨g20_, h⟩ | ⟨g20_, h⟩
        · refine re_icmp_ge_t (pc := 52) 73 (by decide +kernel : decode cX4_take 52 = .ok (.if_icmp .ge 21, 3)) (by decide) g20_ ?_
          refine re_iconst (pc := 73) (0 : Int32) (by decide +kernel : decode cX4_take 73 = .ok (.iconst 0, 1)) (by decide) ?_
          cases h
          exact re_iret (fun ty hty => by cases hty; rfl) (by decide +kernel : decode cX4_take 74 = .ok (.ireturn, 1))
        · refine re_icmp_ge_f (pc := 52) 73 (by decide +kernel : decode cX4_take 52 = .ok (.if_icmp .ge 21, 3)) (by decide) g20_ ?_
          refine re_aloadn (pc := 55) 3 (by decide +kernel : decode cX4_take 55 = .ok (.aload_n 2, 1)) rfl ?_
          refine re_iload (pc := 56) 0 (by decide +kernel : decode cX4_take 56 = .ok (.iload 5, 2)) rfl ?_
          obtain ⟨u21_, g22_, h⟩ := rv_b_e h
          obtain ⟨x24_, g25_, h⟩ := rv_b_e h
          have m23_ := metX9_isCleared n S a2 x16_ _ g25_
          refine re_cV (pc := 58) [.int x16_] m23_ (rv_okl.k ⟨rfl, rfl⟩) (rv_up.rf _ _) (by decide) (rv_ck_e g22_) ⟨by decide, rfl⟩ (Nat.le_of_ble_eq_true rfl) lVX4_43 rfl (by decide +kernel : decode cX4_take 58 = .ok (.invokevirtual 43, 3)) ?_
          rcases rv_if_e h with ⟨g26_, h⟩ | ⟨g26_, h⟩
          · refine re_if_ne_f (pc := 61) 73 (by decide +kernel : decode cX4_take 61 = .ok (.ifCond .ne 12, 3)) (by decide) g26_ ?_
            refine re_iloadn (pc := 64) 4 (by decide +kernel : decode cX4_take 64 = .ok (.iload_n 3, 1)) rfl ?_
            refine re_iload (pc := 65) 0 (by decide +kernel : decode cX4_take 65 = .ok (.iload 5, 2)) rfl ?_
            refine re_iushr (pc := 67) (by decide +kernel : decode cX4_take 67 = .ok (.iushr, 1)) ?_
            refine re_iconst (pc := 68) (1 : Int32) (by decide +kernel : decode cX4_take 68 = .ok (.iconst 1, 1)) (by decide) ?_
            refine re_iand (pc := 69) (by decide +kernel : decode cX4_take 69 = .ok (.iand, 1)) ?_
            rcases rv_if_e h with ⟨g27_, h⟩ | ⟨g27_, h⟩
            · refine re_if_eq_t (pc := 70) 75 (by decide +kernel : decode cX4_take 70 = .ok (.ifCond .eq 5, 3)) (by decide) g27_ ?_
              refine re_iloadn (pc := 75) 4 (by decide +kernel : decode cX4_take 75 = .ok (.iload_n 3, 1)) rfl ?_
              refine re_iconst (pc := 76) (1 : Int32) (by decide +kernel : decode cX4_take 76 = .ok (.iconst 1, 1)) (by decide) ?_
              refine re_iload (pc := 77) 0 (by decide +kernel : decode cX4_take 77 = .ok (.iload 5, 2)) rfl ?_
              refine re_ishl (pc := 79) (by decide +kernel : decode cX4_take 79 = .ok (.ishl, 1)) ?_
              refine re_ior (pc := 80) (by decide +kernel : decode cX4_take 80 = .ok (.ior, 1)) ?_
              obtain ⟨x28_, g29_, h⟩ := rv_lt_e h
              refine re_nI (pc := 81) g29_ ?_
              refine re_istoren (pc := 81) (lv1 := [(3, .int x28_), (5, .int x16_), (0, .ref a0), (1, .ref a1), (2, .ref a2), (4, .int x4)]) (by decide +kernel : decode cX4_take 81 = .ok (.istore_n 3, 1)) rfl (by decide) rfl ?_
              refine re_aloadn (pc := 82) 2 (by decide +kernel : decode cX4_take 82 = .ok (.aload_n 0, 1)) rfl ?_
              obtain ⟨a30_, g31_, h⟩ := rv_b_e h
              refine re_gR (pc := 83) g31_ lfX4_17 rfl (by decide +kernel : decode cX4_take 83 = .ok (.getfield 17, 3)) ?_
              refine re_iload (pc := 86) 5 (by decide +kernel : decode cX4_take 86 = .ok (.iload 4, 2)) rfl ?_
              refine re_iload (pc := 88) 1 (by decide +kernel : decode cX4_take 88 = .ok (.iload 5, 2)) rfl ?_
              obtain ⟨S32_, g33_, h⟩ := rv_b_e h
              refine re_uI (pc := 90) g33_ (by decide +kernel : decode cX4_take 90 = .ok (.iastore, 1)) ?_
              obtain ⟨x34_, g35_, h⟩ := rv_lt_e h
              refine re_iinc (pc := 91) 5 x34_ (lv1 := [(4, .int x34_), (3, .int x28_), (5, .int x16_), (0, .ref a0), (1, .ref a1), (2, .ref a2)]) (by decide +kernel : decode cX4_take 91 = .ok (.iinc 4 1, 3)) rfl g35_ (by decide) rfl ?_
              refine re_goto (pc := 94) 23 (by decide +kernel : decode cX4_take 94 = .ok (.goto (-71), 3)) (by decide) ?_
              refine re_sub [3, 4, 5, 1, 0] (lv1 := [(0, .ref a0), (1, .ref a1), (2, .ref a2), (3, .int x28_), (4, .int x34_)]) rfl ?_
              exact ih S32_ a0 a1 a2 x28_ x34_ _ _ h
            · refine re_if_eq_f (pc := 70) 75 (by decide +kernel : decode cX4_take 70 = .ok (.ifCond .eq 5, 3)) (by decide) g27_ ?_
              refine re_iconst (pc := 73) (0 : Int32) (by decide +kernel : decode cX4_take 73 = .ok (.iconst 0, 1)) (by decide) ?_
              cases h
              exact re_iret (fun ty hty => by cases hty; rfl) (by decide +kernel : decode cX4_take 74 = .ok (.ireturn, 1))
          · refine re_if_ne_t (pc := 61) 73 (by decide +kernel : decode cX4_take 61 = .ok (.ifCond .ne 12, 3)) (by decide) g26_ ?_
            refine re_iconst (pc := 73) (0 : Int32) (by decide +kernel : decode cX4_take 73 = .ok (.iconst 0, 1)) (by decide) ?_
            cases h
            exact re_iret (fun ty hty => by cases hty; rfl) (by decide +kernel : decode cX4_take 74 = .ok (.ireturn, 1))
noncomputable def fnX4_take (n : Nat) (S : rvS) (a0 : Nat) (a1 : Nat) (a2 : Nat) : Option (Int32 × rvS) :=
  (rv_gI S 7 a1 1).bind fun x1_ =>
  if x1_ < (1 : Int32) then (
    some ((0 : Int32), S))
  else (
    (rv_gI S 7 a1 1).bind fun x4_ =>
    if x4_ ≤ (5 : Int32) then (
      cX4_take_23 n n S a0 a1 a2 (0 : Int32) (0 : Int32))
    else (
      some ((0 : Int32), S)))
set_option maxRecDepth 20000 in
set_option maxHeartbeats 4000000 in
theorem eX4_take_in (n : Nat) (S : rvS) (a0 : Nat) (a1 : Nat) (a2 : Nat) (r : Int32) (S' : rvS) (h : fnX4_take n S a0 a1 a2 = some (r, S')) : rv_Ev mX4_take 1 0 [(0, .ref a0), (1, .ref a1), (2, .ref a2)] [] S (some (.int r)) S' := by
  unfold fnX4_take at h
  refine re_aloadn (pc := 0) 1 (by decide +kernel : decode cX4_take 0 = .ok (.aload_n 1, 1)) rfl ?_
  obtain ⟨x1_, g2_, h⟩ := rv_b_e h
  refine re_gI (pc := 1) g2_ lfX4_28 rfl (by decide +kernel : decode cX4_take 1 = .ok (.getfield 28, 3)) ?_
  refine re_iconst (pc := 4) (1 : Int32) (by decide +kernel : decode cX4_take 4 = .ok (.iconst 1, 1)) (by decide) ?_
  rcases rv_if_e h with ⟨g3_, h⟩ | ⟨g3_, h⟩
  · refine re_icmp_lt_t (pc := 5) 16 (by decide +kernel : decode cX4_take 5 = .ok (.if_icmp .lt 11, 3)) (by decide) g3_ ?_
    refine re_iconst (pc := 16) (0 : Int32) (by decide +kernel : decode cX4_take 16 = .ok (.iconst 0, 1)) (by decide) ?_
    cases h
    exact re_iret (fun ty hty => by cases hty; rfl) (by decide +kernel : decode cX4_take 17 = .ok (.ireturn, 1))
  · refine re_icmp_lt_f (pc := 5) 16 (by decide +kernel : decode cX4_take 5 = .ok (.if_icmp .lt 11, 3)) (by decide) g3_ ?_
    refine re_aloadn (pc := 8) 1 (by decide +kernel : decode cX4_take 8 = .ok (.aload_n 1, 1)) rfl ?_
    obtain ⟨x4_, g5_, h⟩ := rv_b_e h
    refine re_gI (pc := 9) g5_ lfX4_28 rfl (by decide +kernel : decode cX4_take 9 = .ok (.getfield 28, 3)) ?_
    refine re_iconst (pc := 12) (5 : Int32) (by decide +kernel : decode cX4_take 12 = .ok (.iconst 5, 1)) (by decide) ?_
    rcases rv_if_e h with ⟨g6_, h⟩ | ⟨g6_, h⟩
    · refine re_icmp_le_t (pc := 13) 18 (by decide +kernel : decode cX4_take 13 = .ok (.if_icmp .le 5, 3)) (by decide) g6_ ?_
      refine re_iconst (pc := 18) (0 : Int32) (by decide +kernel : decode cX4_take 18 = .ok (.iconst 0, 1)) (by decide) ?_
      refine re_istoren (pc := 19) (lv1 := [(3, .int (0 : Int32)), (0, .ref a0), (1, .ref a1), (2, .ref a2)]) (by decide +kernel : decode cX4_take 19 = .ok (.istore_n 3, 1)) rfl (by decide) rfl ?_
      refine re_iconst (pc := 20) (0 : Int32) (by decide +kernel : decode cX4_take 20 = .ok (.iconst 0, 1)) (by decide) ?_
      refine re_istore (pc := 21) (lv1 := [(4, .int (0 : Int32)), (3, .int (0 : Int32)), (0, .ref a0), (1, .ref a1), (2, .ref a2)]) (by decide +kernel : decode cX4_take 21 = .ok (.istore 4, 2)) (by decide) rfl ?_
      refine re_sub [2, 3, 4, 1, 0] (lv1 := [(0, .ref a0), (1, .ref a1), (2, .ref a2), (3, .int (0 : Int32)), (4, .int (0 : Int32))]) rfl ?_
      exact eX4_take_23 n n S a0 a1 a2 (0 : Int32) (0 : Int32) _ _ h
    · refine re_icmp_le_f (pc := 13) 18 (by decide +kernel : decode cX4_take 13 = .ok (.if_icmp .le 5, 3)) (by decide) g6_ ?_
      refine re_iconst (pc := 16) (0 : Int32) (by decide +kernel : decode cX4_take 16 = .ok (.iconst 0, 1)) (by decide) ?_
      cases h
      exact re_iret (fun ty hty => by cases hty; rfl) (by decide +kernel : decode cX4_take 17 = .ok (.ireturn, 1))
theorem metX4_take (n : Nat) (S : rvS) (a0 : Nat) (a1 : Nat) (a2 : Nat) (r : Int32) (S' : rvS) (h : fnX4_take n S a0 a1 a2 = some (r, S')) : rv_Met yX4_take mX4_take 1 [.ref a0, .ref a1, .ref a2] S (some (.int r)) S' := rv_Met.of ⟨by decide +kernel, rfl, (fun z => by first | rfl | cases z), rfl⟩ (Nat.le_of_ble_eq_true rfl) rfl (eX4_take_in n S a0 a1 a2 r S' h)
noncomputable def cX6_copyFrom_18 (n : Nat) : Nat → rvS → Nat → Nat → Int32 → Option rvS
  | 0, _, _, _, _ => none
  | k + 1, S, a0, a1, x2 =>
    if (40 : Int32) ≤ x2 then (
      some S)
    else (
      (rv_gR S 5 a0 2).bind fun a2_ =>
      (rv_gR S 5 a1 2).bind fun a4_ =>
      (rv_aI S 0 a4_ x2).bind fun x6_ =>
      (rv_uI S a2_ x2 x6_).bind fun S8_ =>
      (rv_gR S8_ 5 a0 3).bind fun a10_ =>
      (rv_gR S8_ 5 a1 3).bind fun a12_ =>
      (rv_aI S8_ 0 a12_ x2).bind fun x14_ =>
      (rv_uI S8_ a10_ x2 x14_).bind fun S16_ =>
      (rv_gR S16_ 5 a0 4).bind fun a18_ =>
      (rv_gR S16_ 5 a1 4).bind fun a20_ =>
      (rv_aI S16_ 0 a20_ x2).bind fun x22_ =>
      (rv_uI S16_ a18_ x2 x22_).bind fun S24_ =>
      rv_lt (x2 + (1)) fun x26_ =>
      cX6_copyFrom_18 n k S24_ a0 a1 x26_)
set_option maxRecDepth 20000 in
set_option maxHeartbeats 4000000 in
theorem eX6_copyFrom_18 (n : Nat) : ∀ (k : Nat) (S : rvS) (a0 : Nat) (a1 : Nat) (x2 : Int32) (S' : rvS), cX6_copyFrom_18 n k S a0 a1 x2 = some S' → rv_Ev mX6_copyFrom 0 18 [(0, .ref a0), (1, .ref a1), (2, .int x2)] [] S none S' := by
  intro k
  induction k with
  | zero => intro S a0 a1 x2 S' h; exact absurd h (by simp [cX6_copyFrom_18])
  | succ k ih =>
    intro S a0 a1 x2 S' h
    unfold cX6_copyFrom_18 at h
    refine re_iloadn (pc := 18) 2 (by decide +kernel : decode cX6_copyFrom 18 = .ok (.iload_n 2, 1)) rfl ?_
    refine re_bipush (pc := 19) (40 : Int32) (by decide +kernel : decode cX6_copyFrom 19 = .ok (.bipush 40, 2)) (by decide) ?_
    rcases rv_if_e h with ⟨g1_, h⟩ | ⟨g1_, h⟩
    · refine re_icmp_ge_t (pc := 21) 66 (by decide +kernel : decode cX6_copyFrom 21 = .ok (.if_icmp .ge 45, 3)) (by decide) g1_ ?_
      cases h
      exact re_vret (by decide +kernel : decode cX6_copyFrom 66 = .ok (.return_, 1))
    · refine re_icmp_ge_f (pc := 21) 66 (by decide +kernel : decode cX6_copyFrom 21 = .ok (.if_icmp .ge 45, 3)) (by decide) g1_ ?_
      refine re_aloadn (pc := 24) 0 (by decide +kernel : decode cX6_copyFrom 24 = .ok (.aload_n 0, 1)) rfl ?_
      obtain ⟨a2_, g3_, h⟩ := rv_b_e h
      refine re_gR (pc := 25) g3_ lfX6_15 rfl (by decide +kernel : decode cX6_copyFrom 25 = .ok (.getfield 15, 3)) ?_
      refine re_iloadn (pc := 28) 2 (by decide +kernel : decode cX6_copyFrom 28 = .ok (.iload_n 2, 1)) rfl ?_
      refine re_aloadn (pc := 29) 1 (by decide +kernel : decode cX6_copyFrom 29 = .ok (.aload_n 1, 1)) rfl ?_
      obtain ⟨a4_, g5_, h⟩ := rv_b_e h
      refine re_gR (pc := 30) g5_ lfX6_15 rfl (by decide +kernel : decode cX6_copyFrom 30 = .ok (.getfield 15, 3)) ?_
      refine re_iloadn (pc := 33) 2 (by decide +kernel : decode cX6_copyFrom 33 = .ok (.iload_n 2, 1)) rfl ?_
      obtain ⟨x6_, g7_, h⟩ := rv_b_e h
      refine re_aI (pc := 34) g7_ (by decide +kernel : decode cX6_copyFrom 34 = .ok (.iaload, 1)) ?_
      obtain ⟨S8_, g9_, h⟩ := rv_b_e h
      refine re_uI (pc := 35) g9_ (by decide +kernel : decode cX6_copyFrom 35 = .ok (.iastore, 1)) ?_
      refine re_aloadn (pc := 36) 0 (by decide +kernel : decode cX6_copyFrom 36 = .ok (.aload_n 0, 1)) rfl ?_
      obtain ⟨a10_, g11_, h⟩ := rv_b_e h
      refine re_gR (pc := 37) g11_ lfX6_19 rfl (by decide +kernel : decode cX6_copyFrom 37 = .ok (.getfield 19, 3)) ?_
      refine re_iloadn (pc := 40) 2 (by decide +kernel : decode cX6_copyFrom 40 = .ok (.iload_n 2, 1)) rfl ?_
      refine re_aloadn (pc := 41) 1 (by decide +kernel : decode cX6_copyFrom 41 = .ok (.aload_n 1, 1)) rfl ?_
      obtain ⟨a12_, g13_, h⟩ := rv_b_e h
      refine re_gR (pc := 42) g13_ lfX6_19 rfl (by decide +kernel : decode cX6_copyFrom 42 = .ok (.getfield 19, 3)) ?_
      refine re_iloadn (pc := 45) 2 (by decide +kernel : decode cX6_copyFrom 45 = .ok (.iload_n 2, 1)) rfl ?_
      obtain ⟨x14_, g15_, h⟩ := rv_b_e h
      refine re_aI (pc := 46) g15_ (by decide +kernel : decode cX6_copyFrom 46 = .ok (.iaload, 1)) ?_
      obtain ⟨S16_, g17_, h⟩ := rv_b_e h
      refine re_uI (pc := 47) g17_ (by decide +kernel : decode cX6_copyFrom 47 = .ok (.iastore, 1)) ?_
      refine re_aloadn (pc := 48) 0 (by decide +kernel : decode cX6_copyFrom 48 = .ok (.aload_n 0, 1)) rfl ?_
      obtain ⟨a18_, g19_, h⟩ := rv_b_e h
      refine re_gR (pc := 49) g19_ lfX6_22 rfl (by decide +kernel : decode cX6_copyFrom 49 = .ok (.getfield 22, 3)) ?_
      refine re_iloadn (pc := 52) 2 (by decide +kernel : decode cX6_copyFrom 52 = .ok (.iload_n 2, 1)) rfl ?_
      refine re_aloadn (pc := 53) 1 (by decide +kernel : decode cX6_copyFrom 53 = .ok (.aload_n 1, 1)) rfl ?_
      obtain ⟨a20_, g21_, h⟩ := rv_b_e h
      refine re_gR (pc := 54) g21_ lfX6_22 rfl (by decide +kernel : decode cX6_copyFrom 54 = .ok (.getfield 22, 3)) ?_
      refine re_iloadn (pc := 57) 2 (by decide +kernel : decode cX6_copyFrom 57 = .ok (.iload_n 2, 1)) rfl ?_
      obtain ⟨x22_, g23_, h⟩ := rv_b_e h
      refine re_aI (pc := 58) g23_ (by decide +kernel : decode cX6_copyFrom 58 = .ok (.iaload, 1)) ?_
      obtain ⟨S24_, g25_, h⟩ := rv_b_e h
      refine re_uI (pc := 59) g25_ (by decide +kernel : decode cX6_copyFrom 59 = .ok (.iastore, 1)) ?_
      obtain ⟨x26_, g27_, h⟩ := rv_lt_e h
      refine re_iinc (pc := 60) 2 x26_ (lv1 := [(2, .int x26_), (0, .ref a0), (1, .ref a1)]) (by decide +kernel : decode cX6_copyFrom 60 = .ok (.iinc 2 1, 3)) rfl g27_ (by decide) rfl ?_
      refine re_goto (pc := 63) 18 (by decide +kernel : decode cX6_copyFrom 63 = .ok (.goto (-45), 3)) (by decide) ?_
      refine re_sub [1, 2, 0] (lv1 := [(0, .ref a0), (1, .ref a1), (2, .int x26_)]) rfl ?_
      exact ih S24_ a0 a1 x26_ _ h
noncomputable def fnX6_copyFrom (n : Nat) (S : rvS) (a0 : Nat) (a1 : Nat) : Option rvS :=
  (rv_gI S 5 a1 0).bind fun x1_ =>
  (rv_pI S 5 a0 0 x1_).bind fun S3_ =>
  (rv_gI S3_ 5 a1 1).bind fun x5_ =>
  (rv_pI S3_ 5 a0 1 x5_).bind fun S7_ =>
  cX6_copyFrom_18 n n S7_ a0 a1 (0 : Int32)
set_option maxRecDepth 20000 in
set_option maxHeartbeats 4000000 in
theorem eX6_copyFrom_in (n : Nat) (S : rvS) (a0 : Nat) (a1 : Nat) (S' : rvS) (h : fnX6_copyFrom n S a0 a1 = some S') : rv_Ev mX6_copyFrom 0 0 [(0, .ref a0), (1, .ref a1)] [] S none S' := by
  unfold fnX6_copyFrom at h
  refine re_aloadn (pc := 0) 0 (by decide +kernel : decode cX6_copyFrom 0 = .ok (.aload_n 0, 1)) rfl ?_
  refine re_aloadn (pc := 1) 1 (by decide +kernel : decode cX6_copyFrom 1 = .ok (.aload_n 1, 1)) rfl ?_
  obtain ⟨x1_, g2_, h⟩ := rv_b_e h
  refine re_gI (pc := 2) g2_ lfX6_25 rfl (by decide +kernel : decode cX6_copyFrom 2 = .ok (.getfield 25, 3)) ?_
  obtain ⟨S3_, g4_, h⟩ := rv_b_e h
  refine re_pI (pc := 5) g4_ lfX6_25 rfl rfl rfl rfl (by decide +kernel : decode cX6_copyFrom 5 = .ok (.putfield 25, 3)) ?_
  refine re_aloadn (pc := 8) 0 (by decide +kernel : decode cX6_copyFrom 8 = .ok (.aload_n 0, 1)) rfl ?_
  refine re_aloadn (pc := 9) 1 (by decide +kernel : decode cX6_copyFrom 9 = .ok (.aload_n 1, 1)) rfl ?_
  obtain ⟨x5_, g6_, h⟩ := rv_b_e h
  refine re_gI (pc := 10) g6_ lfX6_11 rfl (by decide +kernel : decode cX6_copyFrom 10 = .ok (.getfield 11, 3)) ?_
  obtain ⟨S7_, g8_, h⟩ := rv_b_e h
  refine re_pI (pc := 13) g8_ lfX6_11 rfl rfl rfl rfl (by decide +kernel : decode cX6_copyFrom 13 = .ok (.putfield 11, 3)) ?_
  refine re_iconst (pc := 16) (0 : Int32) (by decide +kernel : decode cX6_copyFrom 16 = .ok (.iconst 0, 1)) (by decide) ?_
  refine re_istoren (pc := 17) (lv1 := [(2, .int (0 : Int32)), (0, .ref a0), (1, .ref a1)]) (by decide +kernel : decode cX6_copyFrom 17 = .ok (.istore_n 2, 1)) rfl (by decide) rfl ?_
  refine re_sub [1, 2, 0] (lv1 := [(0, .ref a0), (1, .ref a1), (2, .int (0 : Int32))]) rfl ?_
  exact eX6_copyFrom_18 n n S7_ a0 a1 (0 : Int32) _ h
theorem metX6_copyFrom (n : Nat) (S : rvS) (a0 : Nat) (a1 : Nat) (S' : rvS) (h : fnX6_copyFrom n S a0 a1 = some S') : rv_Met yX6_copyFrom mX6_copyFrom 0 [.ref a0, .ref a1] S none S' := rv_Met.of ⟨by decide +kernel, rfl, (fun z => by first | rfl | cases z), rfl⟩ (Nat.le_of_ble_eq_true rfl) rfl (eX6_copyFrom_in n S a0 a1 S' h)
noncomputable def cX4_keepBest_15 (n : Nat) : Nat → rvS → Nat → Int32 → Option rvS
  | 0, _, _, _ => none
  | k + 1, S, a0, x2 =>
    if (5 : Int32) ≤ x2 then (
      some S)
    else (
      (rv_gR S 3 a0 3).bind fun a2_ =>
      (rv_gR S 3 a0 2).bind fun a4_ =>
      (rv_aI S 0 a4_ x2).bind fun x6_ =>
      (rv_uI S a2_ x2 x6_).bind fun S8_ =>
      rv_lt (x2 + (1)) fun x10_ =>
      cX4_keepBest_15 n k S8_ a0 x10_)
set_option maxRecDepth 20000 in
set_option maxHeartbeats 4000000 in
theorem eX4_keepBest_15 (n : Nat) : ∀ (k : Nat) (S : rvS) (a0 : Nat) (x2 : Int32) (S' : rvS), cX4_keepBest_15 n k S a0 x2 = some S' → rv_Ev mX4_keepBest 0 15 [(0, .ref a0), (2, .int x2)] [] S none S' := by
  intro k
  induction k with
  | zero => intro S a0 x2 S' h; exact absurd h (by simp [cX4_keepBest_15])
  | succ k ih =>
    intro S a0 x2 S' h
    unfold cX4_keepBest_15 at h
    refine re_iloadn (pc := 15) 1 (by decide +kernel : decode cX4_keepBest 15 = .ok (.iload_n 2, 1)) rfl ?_
    refine re_iconst (pc := 16) (5 : Int32) (by decide +kernel : decode cX4_keepBest 16 = .ok (.iconst 5, 1)) (by decide) ?_
    rcases rv_if_e h with ⟨g1_, h⟩ | ⟨g1_, h⟩
    · refine re_icmp_ge_t (pc := 17) 38 (by decide +kernel : decode cX4_keepBest 17 = .ok (.if_icmp .ge 21, 3)) (by decide) g1_ ?_
      cases h
      exact re_vret (by decide +kernel : decode cX4_keepBest 38 = .ok (.return_, 1))
    · refine re_icmp_ge_f (pc := 17) 38 (by decide +kernel : decode cX4_keepBest 17 = .ok (.if_icmp .ge 21, 3)) (by decide) g1_ ?_
      refine re_aloadn (pc := 20) 0 (by decide +kernel : decode cX4_keepBest 20 = .ok (.aload_n 0, 1)) rfl ?_
      obtain ⟨a2_, g3_, h⟩ := rv_b_e h
      refine re_gR (pc := 21) g3_ lfX4_24 rfl (by decide +kernel : decode cX4_keepBest 21 = .ok (.getfield 24, 3)) ?_
      refine re_iloadn (pc := 24) 1 (by decide +kernel : decode cX4_keepBest 24 = .ok (.iload_n 2, 1)) rfl ?_
      refine re_aloadn (pc := 25) 0 (by decide +kernel : decode cX4_keepBest 25 = .ok (.aload_n 0, 1)) rfl ?_
      obtain ⟨a4_, g5_, h⟩ := rv_b_e h
      refine re_gR (pc := 26) g5_ lfX4_21 rfl (by decide +kernel : decode cX4_keepBest 26 = .ok (.getfield 21, 3)) ?_
      refine re_iloadn (pc := 29) 1 (by decide +kernel : decode cX4_keepBest 29 = .ok (.iload_n 2, 1)) rfl ?_
      obtain ⟨x6_, g7_, h⟩ := rv_b_e h
      refine re_aI (pc := 30) g7_ (by decide +kernel : decode cX4_keepBest 30 = .ok (.iaload, 1)) ?_
      obtain ⟨S8_, g9_, h⟩ := rv_b_e h
      refine re_uI (pc := 31) g9_ (by decide +kernel : decode cX4_keepBest 31 = .ok (.iastore, 1)) ?_
      obtain ⟨x10_, g11_, h⟩ := rv_lt_e h
      refine re_iinc (pc := 32) 1 x10_ (lv1 := [(2, .int x10_), (0, .ref a0)]) (by decide +kernel : decode cX4_keepBest 32 = .ok (.iinc 2 1, 3)) rfl g11_ (by decide) rfl ?_
      refine re_goto (pc := 35) 15 (by decide +kernel : decode cX4_keepBest 35 = .ok (.goto (-20), 3)) (by decide) ?_
      refine re_sub [1, 0] (lv1 := [(0, .ref a0), (2, .int x10_)]) rfl ?_
      exact ih S8_ a0 x10_ _ h
noncomputable def fnX4_keepBest (n : Nat) (S : rvS) (a0 : Nat) (x1 : Int32) : Option rvS :=
  (rv_gI S 3 a0 6).bind fun x1_ =>
  if x1 ≤ x1_ then (
    some S)
  else (
    (rv_pI S 3 a0 6 x1).bind fun S4_ =>
    cX4_keepBest_15 n n S4_ a0 (0 : Int32))
set_option maxRecDepth 20000 in
set_option maxHeartbeats 4000000 in
theorem eX4_keepBest_in (n : Nat) (S : rvS) (a0 : Nat) (x1 : Int32) (S' : rvS) (h : fnX4_keepBest n S a0 x1 = some S') : rv_Ev mX4_keepBest 0 0 [(0, .ref a0), (1, .int x1)] [] S none S' := by
  unfold fnX4_keepBest at h
  refine re_iloadn (pc := 0) 1 (by decide +kernel : decode cX4_keepBest 0 = .ok (.iload_n 1, 1)) rfl ?_
  refine re_aloadn (pc := 1) 0 (by decide +kernel : decode cX4_keepBest 1 = .ok (.aload_n 0, 1)) rfl ?_
  obtain ⟨x1_, g2_, h⟩ := rv_b_e h
  refine re_gI (pc := 2) g2_ lfX4_50 rfl (by decide +kernel : decode cX4_keepBest 2 = .ok (.getfield 50, 3)) ?_
  rcases rv_if_e h with ⟨g3_, h⟩ | ⟨g3_, h⟩
  · refine re_icmp_le_t (pc := 5) 38 (by decide +kernel : decode cX4_keepBest 5 = .ok (.if_icmp .le 33, 3)) (by decide) g3_ ?_
    cases h
    exact re_vret (by decide +kernel : decode cX4_keepBest 38 = .ok (.return_, 1))
  · refine re_icmp_le_f (pc := 5) 38 (by decide +kernel : decode cX4_keepBest 5 = .ok (.if_icmp .le 33, 3)) (by decide) g3_ ?_
    refine re_aloadn (pc := 8) 0 (by decide +kernel : decode cX4_keepBest 8 = .ok (.aload_n 0, 1)) rfl ?_
    refine re_iloadn (pc := 9) 1 (by decide +kernel : decode cX4_keepBest 9 = .ok (.iload_n 1, 1)) rfl ?_
    obtain ⟨S4_, g5_, h⟩ := rv_b_e h
    refine re_pI (pc := 10) g5_ lfX4_50 rfl rfl rfl rfl (by decide +kernel : decode cX4_keepBest 10 = .ok (.putfield 50, 3)) ?_
    refine re_iconst (pc := 13) (0 : Int32) (by decide +kernel : decode cX4_keepBest 13 = .ok (.iconst 0, 1)) (by decide) ?_
    refine re_istoren (pc := 14) (lv1 := [(2, .int (0 : Int32)), (0, .ref a0), (1, .int x1)]) (by decide +kernel : decode cX4_keepBest 14 = .ok (.istore_n 2, 1)) rfl (by decide) rfl ?_
    refine re_sub [1, 0] (lv1 := [(0, .ref a0), (2, .int (0 : Int32))]) rfl ?_
    exact eX4_keepBest_15 n n S4_ a0 (0 : Int32) _ h
theorem metX4_keepBest (n : Nat) (S : rvS) (a0 : Nat) (x1 : Int32) (S' : rvS) (h : fnX4_keepBest n S a0 x1 = some S') : rv_Met yX4_keepBest mX4_keepBest 0 [.ref a0, .int x1] S none S' := rv_Met.of ⟨by decide +kernel, rfl, (fun z => by first | rfl | cases z), rfl⟩ (Nat.le_of_ble_eq_true rfl) rfl (eX4_keepBest_in n S a0 x1 S' h)
noncomputable def cX6_goingTo_6 (n : Nat) (S : rvS) : Nat → Nat → Nat → Int32 → Int32 → Int64 → Int32 → Option Int64
  | 0, _, _, _, _, _, _ => none
  | k + 1, a0, a1, x2, x3, x4, x6 =>
    (rv_gI S 5 a0 0).bind fun x1_ =>
    if x1_ ≤ x6 then (
      some x4)
    else (
      (rv_gR S 5 a0 3).bind fun a4_ =>
      (rv_aI S 0 a4_ x6).bind fun x6_ =>
      if x6_ = x2 then (
        (rv_gR S 5 a0 4).bind fun a11_ =>
        (rv_aI S 0 a11_ x6).bind fun x13_ =>
        (rv_ck S 0 a1).bind fun u15_ =>
        (fnX1_goers n S a1 x2 x13_).bind fun x18_ =>
        if (((x18_.toUInt32 >>> (x3.toUInt32 &&& Int32.toUInt32 31)).toInt32) &&& (1 : Int32)) = 0 then (
          rv_lt (x6 + (1)) fun x21_ =>
          cX6_goingTo_6 n S k a0 a1 x2 x3 x4 x21_)
        else (
          rv_lt (x4 ||| ((1 : Int64) <<< (x6.toInt64 &&& 63))) fun x23_ =>
          rv_lt (x6 + (1)) fun x25_ =>
          cX6_goingTo_6 n S k a0 a1 x2 x3 x23_ x25_))
      else (
        rv_lt (x6 + (1)) fun x9_ =>
        cX6_goingTo_6 n S k a0 a1 x2 x3 x4 x9_))
set_option maxRecDepth 20000 in
set_option maxHeartbeats 4000000 in
theorem eX6_goingTo_6 (n : Nat) (S : rvS) : ∀ (k : Nat) (a0 : Nat) (a1 : Nat) (x2 : Int32) (x3 : Int32) (x4 : Int64) (x6 : Int32) (r : Int64), cX6_goingTo_6 n S k a0 a1 x2 x3 x4 x6 = some r → rv_Ev mX6_goingTo 2 6 [(0, .ref a0), (1, .ref a1), (2, .int x2), (3, .int x3), (4, .long x4), (6, .int x6)] [] S (some (.long r)) S := by
  intro k
  induction k with
  | zero => intro a0 a1 x2 x3 x4 x6 r h; exact absurd h (by simp [cX6_goingTo_6])
  | succ k ih =>
    intro a0 a1 x2 x3 x4 x6 r h
    unfold cX6_goingTo_6 at h
    refine re_iload (pc := 6) 5 (by decide +kernel : decode cX6_goingTo 6 = .ok (.iload 6, 2)) rfl ?_
    refine re_aloadn (pc := 8) 0 (by decide +kernel : decode cX6_goingTo 8 = .ok (.aload_n 0, 1)) rfl ?_
    obtain ⟨x1_, g2_, h⟩ := rv_b_e h
    refine re_gI (pc := 9) g2_ lfX6_25 rfl (by decide +kernel : decode cX6_goingTo 9 = .ok (.getfield 25, 3)) ?_
    rcases rv_if_e h with ⟨g3_, h⟩ | ⟨g3_, h⟩
    · refine re_icmp_ge_t (pc := 12) 60 (by decide +kernel : decode cX6_goingTo 12 = .ok (.if_icmp .ge 48, 3)) (by decide) g3_ ?_
      refine re_lload (pc := 60) 4 (by decide +kernel : decode cX6_goingTo 60 = .ok (.lload 4, 2)) rfl ?_
      cases h
      exact re_lret (by decide +kernel : decode cX6_goingTo 62 = .ok (.lreturn, 1))
    · refine re_icmp_ge_f (pc := 12) 60 (by decide +kernel : decode cX6_goingTo 12 = .ok (.if_icmp .ge 48, 3)) (by decide) g3_ ?_
      refine re_aloadn (pc := 15) 0 (by decide +kernel : decode cX6_goingTo 15 = .ok (.aload_n 0, 1)) rfl ?_
      obtain ⟨a4_, g5_, h⟩ := rv_b_e h
      refine re_gR (pc := 16) g5_ lfX6_19 rfl (by decide +kernel : decode cX6_goingTo 16 = .ok (.getfield 19, 3)) ?_
      refine re_iload (pc := 19) 5 (by decide +kernel : decode cX6_goingTo 19 = .ok (.iload 6, 2)) rfl ?_
      obtain ⟨x6_, g7_, h⟩ := rv_b_e h
      refine re_aI (pc := 21) g7_ (by decide +kernel : decode cX6_goingTo 21 = .ok (.iaload, 1)) ?_
      refine re_iloadn (pc := 22) 2 (by decide +kernel : decode cX6_goingTo 22 = .ok (.iload_n 2, 1)) rfl ?_
      rcases rv_if_e h with ⟨g8_, h⟩ | ⟨g8_, h⟩
      · refine re_icmp_ne_f (pc := 23) 54 (by decide +kernel : decode cX6_goingTo 23 = .ok (.if_icmp .ne 31, 3)) (by decide) g8_ ?_
        refine re_aloadn (pc := 26) 1 (by decide +kernel : decode cX6_goingTo 26 = .ok (.aload_n 1, 1)) rfl ?_
        refine re_iloadn (pc := 27) 2 (by decide +kernel : decode cX6_goingTo 27 = .ok (.iload_n 2, 1)) rfl ?_
        refine re_aloadn (pc := 28) 0 (by decide +kernel : decode cX6_goingTo 28 = .ok (.aload_n 0, 1)) rfl ?_
        obtain ⟨a11_, g12_, h⟩ := rv_b_e h
        refine re_gR (pc := 29) g12_ lfX6_22 rfl (by decide +kernel : decode cX6_goingTo 29 = .ok (.getfield 22, 3)) ?_
        refine re_iload (pc := 32) 5 (by decide +kernel : decode cX6_goingTo 32 = .ok (.iload 6, 2)) rfl ?_
        obtain ⟨x13_, g14_, h⟩ := rv_b_e h
        refine re_aI (pc := 34) g14_ (by decide +kernel : decode cX6_goingTo 34 = .ok (.iaload, 1)) ?_
        obtain ⟨u15_, g16_, h⟩ := rv_b_e h
        obtain ⟨x18_, g19_, h⟩ := rv_b_e h
        have m17_ := metX1_goers n S a1 x2 x13_ _ g19_
        refine re_cV (pc := 35) [.int x2, .int x13_] m17_ (rv_okl.k ⟨rfl, rfl⟩) (rv_up.rf _ _) (by decide) (rv_ck_e g16_) ⟨by decide, rfl⟩ (Nat.le_of_ble_eq_true rfl) lVX6_46 rfl (by decide +kernel : decode cX6_goingTo 35 = .ok (.invokevirtual 46, 3)) ?_
        refine re_iloadn (pc := 38) 3 (by decide +kernel : decode cX6_goingTo 38 = .ok (.iload_n 3, 1)) rfl ?_
        refine re_iushr (pc := 39) (by decide +kernel : decode cX6_goingTo 39 = .ok (.iushr, 1)) ?_
        refine re_iconst (pc := 40) (1 : Int32) (by decide +kernel : decode cX6_goingTo 40 = .ok (.iconst 1, 1)) (by decide) ?_
        refine re_iand (pc := 41) (by decide +kernel : decode cX6_goingTo 41 = .ok (.iand, 1)) ?_
        rcases rv_if_e h with ⟨g20_, h⟩ | ⟨g20_, h⟩
        · refine re_if_eq_t (pc := 42) 54 (by decide +kernel : decode cX6_goingTo 42 = .ok (.ifCond .eq 12, 3)) (by decide) g20_ ?_
          obtain ⟨x21_, g22_, h⟩ := rv_lt_e h
          refine re_iinc (pc := 54) 5 x21_ (lv1 := [(6, .int x21_), (0, .ref a0), (1, .ref a1), (2, .int x2), (3, .int x3), (4, .long x4)]) (by decide +kernel : decode cX6_goingTo 54 = .ok (.iinc 6 1, 3)) rfl g22_ (by decide) rfl ?_
          refine re_goto (pc := 57) 6 (by decide +kernel : decode cX6_goingTo 57 = .ok (.goto (-51), 3)) (by decide) ?_
          refine re_sub [1, 2, 3, 4, 5, 0] (lv1 := [(0, .ref a0), (1, .ref a1), (2, .int x2), (3, .int x3), (4, .long x4), (6, .int x21_)]) rfl ?_
          exact ih a0 a1 x2 x3 x4 x21_ _ h
        · refine re_if_eq_f (pc := 42) 54 (by decide +kernel : decode cX6_goingTo 42 = .ok (.ifCond .eq 12, 3)) (by decide) g20_ ?_
          refine re_lload (pc := 45) 4 (by decide +kernel : decode cX6_goingTo 45 = .ok (.lload 4, 2)) rfl ?_
          refine re_lconst (pc := 47) (1 : Int64) (by decide +kernel : decode cX6_goingTo 47 = .ok (.lconst 1, 1)) (by decide) ?_
          refine re_iload (pc := 48) 5 (by decide +kernel : decode cX6_goingTo 48 = .ok (.iload 6, 2)) rfl ?_
          refine re_lshl (pc := 50) (by decide +kernel : decode cX6_goingTo 50 = .ok (.lshl, 1)) ?_
          refine re_lor (pc := 51) (by decide +kernel : decode cX6_goingTo 51 = .ok (.lor, 1)) ?_
          obtain ⟨x23_, g24_, h⟩ := rv_lt_e h
          refine re_nL (pc := 52) g24_ ?_
          refine re_lstore (pc := 52) (lv1 := [(4, .long x23_), (0, .ref a0), (1, .ref a1), (2, .int x2), (3, .int x3), (6, .int x6)]) (by decide +kernel : decode cX6_goingTo 52 = .ok (.lstore 4, 2)) (by decide) rfl ?_
          obtain ⟨x25_, g26_, h⟩ := rv_lt_e h
          refine re_iinc (pc := 54) 5 x25_ (lv1 := [(6, .int x25_), (4, .long x23_), (0, .ref a0), (1, .ref a1), (2, .int x2), (3, .int x3)]) (by decide +kernel : decode cX6_goingTo 54 = .ok (.iinc 6 1, 3)) rfl g26_ (by decide) rfl ?_
          refine re_goto (pc := 57) 6 (by decide +kernel : decode cX6_goingTo 57 = .ok (.goto (-51), 3)) (by decide) ?_
          refine re_sub [2, 3, 4, 5, 1, 0] (lv1 := [(0, .ref a0), (1, .ref a1), (2, .int x2), (3, .int x3), (4, .long x23_), (6, .int x25_)]) rfl ?_
          exact ih a0 a1 x2 x3 x23_ x25_ _ h
      · refine re_icmp_ne_t (pc := 23) 54 (by decide +kernel : decode cX6_goingTo 23 = .ok (.if_icmp .ne 31, 3)) (by decide) g8_ ?_
        obtain ⟨x9_, g10_, h⟩ := rv_lt_e h
        refine re_iinc (pc := 54) 5 x9_ (lv1 := [(6, .int x9_), (0, .ref a0), (1, .ref a1), (2, .int x2), (3, .int x3), (4, .long x4)]) (by decide +kernel : decode cX6_goingTo 54 = .ok (.iinc 6 1, 3)) rfl g10_ (by decide) rfl ?_
        refine re_goto (pc := 57) 6 (by decide +kernel : decode cX6_goingTo 57 = .ok (.goto (-51), 3)) (by decide) ?_
        refine re_sub [1, 2, 3, 4, 5, 0] (lv1 := [(0, .ref a0), (1, .ref a1), (2, .int x2), (3, .int x3), (4, .long x4), (6, .int x9_)]) rfl ?_
        exact ih a0 a1 x2 x3 x4 x9_ _ h
noncomputable def fnX6_goingTo (n : Nat) (S : rvS) (a0 : Nat) (a1 : Nat) (x2 : Int32) (x3 : Int32) : Option Int64 :=
  cX6_goingTo_6 n S n a0 a1 x2 x3 (0 : Int64) (0 : Int32)
set_option maxRecDepth 20000 in
set_option maxHeartbeats 4000000 in
theorem eX6_goingTo_in (n : Nat) (S : rvS) (a0 : Nat) (a1 : Nat) (x2 : Int32) (x3 : Int32) (r : Int64) (h : fnX6_goingTo n S a0 a1 x2 x3 = some r) : rv_Ev mX6_goingTo 2 0 [(0, .ref a0), (1, .ref a1), (2, .int x2), (3, .int x3)] [] S (some (.long r)) S := by
  unfold fnX6_goingTo at h
  refine re_lconst (pc := 0) (0 : Int64) (by decide +kernel : decode cX6_goingTo 0 = .ok (.lconst 0, 1)) (by decide) ?_
  refine re_lstore (pc := 1) (lv1 := [(4, .long (0 : Int64)), (0, .ref a0), (1, .ref a1), (2, .int x2), (3, .int x3)]) (by decide +kernel : decode cX6_goingTo 1 = .ok (.lstore 4, 2)) (by decide) rfl ?_
  refine re_iconst (pc := 3) (0 : Int32) (by decide +kernel : decode cX6_goingTo 3 = .ok (.iconst 0, 1)) (by decide) ?_
  refine re_istore (pc := 4) (lv1 := [(6, .int (0 : Int32)), (4, .long (0 : Int64)), (0, .ref a0), (1, .ref a1), (2, .int x2), (3, .int x3)]) (by decide +kernel : decode cX6_goingTo 4 = .ok (.istore 6, 2)) (by decide) rfl ?_
  refine re_sub [2, 3, 4, 5, 1, 0] (lv1 := [(0, .ref a0), (1, .ref a1), (2, .int x2), (3, .int x3), (4, .long (0 : Int64)), (6, .int (0 : Int32))]) rfl ?_
  exact eX6_goingTo_6 n S n a0 a1 x2 x3 (0 : Int64) (0 : Int32) _ h
theorem metX6_goingTo (n : Nat) (S : rvS) (a0 : Nat) (a1 : Nat) (x2 : Int32) (x3 : Int32) (r : Int64) (h : fnX6_goingTo n S a0 a1 x2 x3 = some r) : rv_Met yX6_goingTo mX6_goingTo 2 [.ref a0, .ref a1, .int x2, .int x3] S (some (.long r)) S := rv_Met.of ⟨by decide +kernel, rfl, (fun z => by first | rfl | cases z), rfl⟩ (Nat.le_of_ble_eq_true rfl) rfl (eX6_goingTo_in n S a0 a1 x2 x3 r h)
noncomputable def cX5_startAt_2 (n : Nat) : Nat → rvS → Nat → Int32 → Int32 → Option rvS
  | 0, _, _, _, _ => none
  | k + 1, S, a0, x1, x2 =>
    if x1 < x2 then (
      (rv_uL S a0 (0 : Int32) (69269232549888 : Int64)).bind fun S2_ =>
      some S2_)
    else (
      (rv_ln S 1 a0).bind fun l4_ =>
      if (Int32.ofNat l4_) ≤ x2 then (
        (rv_uL S a0 (0 : Int32) (69269232549888 : Int64)).bind fun S7_ =>
        some S7_)
      else (
        (rv_uL S a0 x2 (0 : Int64)).bind fun S9_ =>
        rv_lt (x2 + (1)) fun x11_ =>
        cX5_startAt_2 n k S9_ a0 x1 x11_))
set_option maxRecDepth 20000 in
set_option maxHeartbeats 4000000 in
theorem eX5_startAt_2 (n : Nat) : ∀ (k : Nat) (S : rvS) (a0 : Nat) (x1 : Int32) (x2 : Int32) (S' : rvS), cX5_startAt_2 n k S a0 x1 x2 = some S' → rv_Ev mX5_startAt 0 2 [(0, .ref a0), (1, .int x1), (2, .int x2)] [] S none S' := by
  intro k
  induction k with
  | zero => intro S a0 x1 x2 S' h; exact absurd h (by simp [cX5_startAt_2])
  | succ k ih =>
    intro S a0 x1 x2 S' h
    unfold cX5_startAt_2 at h
    refine re_iloadn (pc := 2) 2 (by decide +kernel : decode cX5_startAt 2 = .ok (.iload_n 2, 1)) rfl ?_
    refine re_iloadn (pc := 3) 1 (by decide +kernel : decode cX5_startAt 3 = .ok (.iload_n 1, 1)) rfl ?_
    rcases rv_if_e h with ⟨g1_, h⟩ | ⟨g1_, h⟩
    · refine re_icmp_gt_t (pc := 4) 23 (by decide +kernel : decode cX5_startAt 4 = .ok (.if_icmp .gt 19, 3)) (by decide) g1_ ?_
      refine re_aloadn (pc := 23) 0 (by decide +kernel : decode cX5_startAt 23 = .ok (.aload_n 0, 1)) rfl ?_
      refine re_iconst (pc := 24) (0 : Int32) (by decide +kernel : decode cX5_startAt 24 = .ok (.iconst 0, 1)) (by decide) ?_
      refine re_ldc2 (pc := 25) (v := 69269232549888) (rw4 56 (by decide +kernel) rfl) (by decide +kernel : decode cX5_startAt 25 = .ok (.ldc2_w 44, 3)) ?_
      obtain ⟨S2_, g3_, h⟩ := rv_b_e h
      refine re_uL (pc := 28) g3_ (by decide +kernel : decode cX5_startAt 28 = .ok (.lastore, 1)) ?_
      cases h
      exact re_vret (by decide +kernel : decode cX5_startAt 29 = .ok (.return_, 1))
    · refine re_icmp_gt_f (pc := 4) 23 (by decide +kernel : decode cX5_startAt 4 = .ok (.if_icmp .gt 19, 3)) (by decide) g1_ ?_
      refine re_iloadn (pc := 7) 2 (by decide +kernel : decode cX5_startAt 7 = .ok (.iload_n 2, 1)) rfl ?_
      refine re_aloadn (pc := 8) 0 (by decide +kernel : decode cX5_startAt 8 = .ok (.aload_n 0, 1)) rfl ?_
      obtain ⟨l4_, g5_, h⟩ := rv_b_e h
      refine re_alen (pc := 9) (t := 1) (by decide) (rv_ln_e g5_) (by decide +kernel : decode cX5_startAt 9 = .ok (.arraylength, 1)) ?_
      rcases rv_if_e h with ⟨g6_, h⟩ | ⟨g6_, h⟩
      · refine re_icmp_ge_t (pc := 10) 23 (by decide +kernel : decode cX5_startAt 10 = .ok (.if_icmp .ge 13, 3)) (by decide) g6_ ?_
        refine re_aloadn (pc := 23) 0 (by decide +kernel : decode cX5_startAt 23 = .ok (.aload_n 0, 1)) rfl ?_
        refine re_iconst (pc := 24) (0 : Int32) (by decide +kernel : decode cX5_startAt 24 = .ok (.iconst 0, 1)) (by decide) ?_
        refine re_ldc2 (pc := 25) (v := 69269232549888) (rw4 56 (by decide +kernel) rfl) (by decide +kernel : decode cX5_startAt 25 = .ok (.ldc2_w 44, 3)) ?_
        obtain ⟨S7_, g8_, h⟩ := rv_b_e h
        refine re_uL (pc := 28) g8_ (by decide +kernel : decode cX5_startAt 28 = .ok (.lastore, 1)) ?_
        cases h
        exact re_vret (by decide +kernel : decode cX5_startAt 29 = .ok (.return_, 1))
      · refine re_icmp_ge_f (pc := 10) 23 (by decide +kernel : decode cX5_startAt 10 = .ok (.if_icmp .ge 13, 3)) (by decide) g6_ ?_
        refine re_aloadn (pc := 13) 0 (by decide +kernel : decode cX5_startAt 13 = .ok (.aload_n 0, 1)) rfl ?_
        refine re_iloadn (pc := 14) 2 (by decide +kernel : decode cX5_startAt 14 = .ok (.iload_n 2, 1)) rfl ?_
        refine re_lconst (pc := 15) (0 : Int64) (by decide +kernel : decode cX5_startAt 15 = .ok (.lconst 0, 1)) (by decide) ?_
        obtain ⟨S9_, g10_, h⟩ := rv_b_e h
        refine re_uL (pc := 16) g10_ (by decide +kernel : decode cX5_startAt 16 = .ok (.lastore, 1)) ?_
        obtain ⟨x11_, g12_, h⟩ := rv_lt_e h
        refine re_iinc (pc := 17) 2 x11_ (lv1 := [(2, .int x11_), (0, .ref a0), (1, .int x1)]) (by decide +kernel : decode cX5_startAt 17 = .ok (.iinc 2 1, 3)) rfl g12_ (by decide) rfl ?_
        refine re_goto (pc := 20) 2 (by decide +kernel : decode cX5_startAt 20 = .ok (.goto (-18), 3)) (by decide) ?_
        refine re_sub [1, 2, 0] (lv1 := [(0, .ref a0), (1, .int x1), (2, .int x11_)]) rfl ?_
        exact ih S9_ a0 x1 x11_ _ h
noncomputable def fnX5_startAt (n : Nat) (S : rvS) (a0 : Nat) (x1 : Int32) : Option rvS :=
  cX5_startAt_2 n n S a0 x1 (1 : Int32)
set_option maxRecDepth 20000 in
set_option maxHeartbeats 4000000 in
theorem eX5_startAt_in (n : Nat) (S : rvS) (a0 : Nat) (x1 : Int32) (S' : rvS) (h : fnX5_startAt n S a0 x1 = some S') : rv_Ev mX5_startAt 0 0 [(0, .ref a0), (1, .int x1)] [] S none S' := by
  unfold fnX5_startAt at h
  refine re_iconst (pc := 0) (1 : Int32) (by decide +kernel : decode cX5_startAt 0 = .ok (.iconst 1, 1)) (by decide) ?_
  refine re_istoren (pc := 1) (lv1 := [(2, .int (1 : Int32)), (0, .ref a0), (1, .int x1)]) (by decide +kernel : decode cX5_startAt 1 = .ok (.istore_n 2, 1)) rfl (by decide) rfl ?_
  refine re_sub [1, 2, 0] (lv1 := [(0, .ref a0), (1, .int x1), (2, .int (1 : Int32))]) rfl ?_
  exact eX5_startAt_2 n n S a0 x1 (1 : Int32) _ h
theorem metX5_startAt (n : Nat) (S : rvS) (a0 : Nat) (x1 : Int32) (S' : rvS) (h : fnX5_startAt n S a0 x1 = some S') : rv_Met yX5_startAt mX5_startAt 0 [.ref a0, .int x1] S none S' := rv_Met.of ⟨by decide +kernel, rfl, (fun z => by first | rfl | cases z), rfl⟩ (Nat.le_of_ble_eq_true rfl) rfl (eX5_startAt_in n S a0 x1 S' h)
noncomputable def fnX5_heavier (n : Nat) (S : rvS) (x0 : Int64) (x2 : Int32) : Option Int64 :=
  if (lg_cmp x0 (0 : Int64)) = 0 then (
    some (0 : Int64))
  else (
    some ((x0 - (1099511627776 : Int64)) + ((1 : Int64) <<< (((39 : Int32) - x2).toInt64 &&& 63))))
set_option maxRecDepth 20000 in
set_option maxHeartbeats 4000000 in
theorem eX5_heavier_in (n : Nat) (S : rvS) (x0 : Int64) (x2 : Int32) (r : Int64) (h : fnX5_heavier n S x0 x2 = some r) : rv_Ev mX5_heavier 0 0 [(0, .long x0), (2, .int x2)] [] S (some (.long r)) S := by
  unfold fnX5_heavier at h
  refine re_lloadn (pc := 0) 0 (by decide +kernel : decode cX5_heavier 0 = .ok (.lload_n 0, 1)) rfl ?_
  refine re_lconst (pc := 1) (0 : Int64) (by decide +kernel : decode cX5_heavier 1 = .ok (.lconst 0, 1)) (by decide) ?_
  refine re_lcmp (pc := 2) (by decide +kernel : decode cX5_heavier 2 = .ok (.lcmp, 1)) ?_
  rcases rv_if_e h with ⟨g1_, h⟩ | ⟨g1_, h⟩
  · refine re_if_ne_f (pc := 3) 10 (by decide +kernel : decode cX5_heavier 3 = .ok (.ifCond .ne 7, 3)) (by decide) g1_ ?_
    refine re_lconst (pc := 6) (0 : Int64) (by decide +kernel : decode cX5_heavier 6 = .ok (.lconst 0, 1)) (by decide) ?_
    refine re_goto (pc := 7) 22 (by decide +kernel : decode cX5_heavier 7 = .ok (.goto 15, 3)) (by decide) ?_
    cases h
    exact re_lret (by decide +kernel : decode cX5_heavier 22 = .ok (.lreturn, 1))
  · refine re_if_ne_t (pc := 3) 10 (by decide +kernel : decode cX5_heavier 3 = .ok (.ifCond .ne 7, 3)) (by decide) g1_ ?_
    refine re_lloadn (pc := 10) 0 (by decide +kernel : decode cX5_heavier 10 = .ok (.lload_n 0, 1)) rfl ?_
    refine re_ldc2 (pc := 11) (v := 1099511627776) (rw4 64 (by decide +kernel) rfl) (by decide +kernel : decode cX5_heavier 11 = .ok (.ldc2_w 56, 3)) ?_
    refine re_lsub (pc := 14) (by decide +kernel : decode cX5_heavier 14 = .ok (.lsub, 1)) ?_
    refine re_lconst (pc := 15) (1 : Int64) (by decide +kernel : decode cX5_heavier 15 = .ok (.lconst 1, 1)) (by decide) ?_
    refine re_bipush (pc := 16) (39 : Int32) (by decide +kernel : decode cX5_heavier 16 = .ok (.bipush 39, 2)) (by decide) ?_
    refine re_iloadn (pc := 18) 1 (by decide +kernel : decode cX5_heavier 18 = .ok (.iload_n 2, 1)) rfl ?_
    refine re_isub (pc := 19) (by decide +kernel : decode cX5_heavier 19 = .ok (.isub, 1)) ?_
    refine re_lshl (pc := 20) (by decide +kernel : decode cX5_heavier 20 = .ok (.lshl, 1)) ?_
    refine re_ladd (pc := 21) (by decide +kernel : decode cX5_heavier 21 = .ok (.ladd, 1)) ?_
    cases h
    exact re_lret (by decide +kernel : decode cX5_heavier 22 = .ok (.lreturn, 1))
theorem metX5_heavier (n : Nat) (S : rvS) (x0 : Int64) (x2 : Int32) (r : Int64) (h : fnX5_heavier n S x0 x2 = some r) : rv_Met yX5_heavier mX5_heavier 0 [.long x0, .int x2] S (some (.long r)) S := rv_Met.of ⟨by decide +kernel, rfl, (fun z => by first | rfl | cases z), rfl⟩ (Nat.le_of_ble_eq_true rfl) rfl (eX5_heavier_in n S x0 x2 r h)
noncomputable def cX5_addCoin_3 (n : Nat) : Nat → rvS → Nat → Int32 → Int32 → Int32 → Option rvS
  | 0, _, _, _, _, _ => none
  | k + 1, S, a0, x1, x2, x4 =>
    if x4 < x2 then (
      some S)
    else (
      if x4 < 0 then (
        some S)
      else (
        (rv_gR S 4 a0 0).bind fun a3_ =>
        (rv_gR S 4 a0 0).bind fun a5_ =>
        (rv_aL S a5_ x4).bind fun x7_ =>
        (rv_gR S 4 a0 0).bind fun a9_ =>
        (rv_aL S a9_ (x4 - x2)).bind fun x11_ =>
        (fnX5_heavier n S x11_ x1).bind fun x14_ =>
        (rv_uL S a3_ x4 (if x14_ < x7_ then x7_ else x14_)).bind fun S16_ =>
        rv_lt (x4 + (-1)) fun x18_ =>
        cX5_addCoin_3 n k S16_ a0 x1 x2 x18_))
set_option maxRecDepth 20000 in
set_option maxHeartbeats 4000000 in
theorem eX5_addCoin_3 (n : Nat) : ∀ (k : Nat) (S : rvS) (a0 : Nat) (x1 : Int32) (x2 : Int32) (x4 : Int32) (S' : rvS), cX5_addCoin_3 n k S a0 x1 x2 x4 = some S' → rv_Ev mX5_addCoin 1 3 [(0, .ref a0), (1, .int x1), (2, .int x2), (4, .int x4)] [] S none S' := by
  intro k
  induction k with
  | zero => intro S a0 x1 x2 x4 S' h; exact absurd h (by simp [cX5_addCoin_3])
  | succ k ih =>
    intro S a0 x1 x2 x4 S' h
    unfold cX5_addCoin_3 at h
    refine re_iload (pc := 3) 3 (by decide +kernel : decode cX5_addCoin 3 = .ok (.iload 4, 2)) rfl ?_
    refine re_iloadn (pc := 5) 2 (by decide +kernel : decode cX5_addCoin 5 = .ok (.iload_n 2, 1)) rfl ?_
    rcases rv_if_e h with ⟨g1_, h⟩ | ⟨g1_, h⟩
    · refine re_icmp_lt_t (pc := 6) 50 (by decide +kernel : decode cX5_addCoin 6 = .ok (.if_icmp .lt 44, 3)) (by decide) g1_ ?_
      cases h
      exact re_vret (by decide +kernel : decode cX5_addCoin 50 = .ok (.return_, 1))
    · refine re_icmp_lt_f (pc := 6) 50 (by decide +kernel : decode cX5_addCoin 6 = .ok (.if_icmp .lt 44, 3)) (by decide) g1_ ?_
      refine re_iload (pc := 9) 3 (by decide +kernel : decode cX5_addCoin 9 = .ok (.iload 4, 2)) rfl ?_
      rcases rv_if_e h with ⟨g2_, h⟩ | ⟨g2_, h⟩
      · refine re_if_lt_t (pc := 11) 50 (by decide +kernel : decode cX5_addCoin 11 = .ok (.ifCond .lt 39, 3)) (by decide) g2_ ?_
        cases h
        exact re_vret (by decide +kernel : decode cX5_addCoin 50 = .ok (.return_, 1))
      · refine re_if_lt_f (pc := 11) 50 (by decide +kernel : decode cX5_addCoin 11 = .ok (.ifCond .lt 39, 3)) (by decide) g2_ ?_
        refine re_aloadn (pc := 14) 0 (by decide +kernel : decode cX5_addCoin 14 = .ok (.aload_n 0, 1)) rfl ?_
        obtain ⟨a3_, g4_, h⟩ := rv_b_e h
        refine re_gR (pc := 15) g4_ lfX5_11 rfl (by decide +kernel : decode cX5_addCoin 15 = .ok (.getfield 11, 3)) ?_
        refine re_iload (pc := 18) 3 (by decide +kernel : decode cX5_addCoin 18 = .ok (.iload 4, 2)) rfl ?_
        refine re_aloadn (pc := 20) 0 (by decide +kernel : decode cX5_addCoin 20 = .ok (.aload_n 0, 1)) rfl ?_
        obtain ⟨a5_, g6_, h⟩ := rv_b_e h
        refine re_gR (pc := 21) g6_ lfX5_11 rfl (by decide +kernel : decode cX5_addCoin 21 = .ok (.getfield 11, 3)) ?_
        refine re_iload (pc := 24) 3 (by decide +kernel : decode cX5_addCoin 24 = .ok (.iload 4, 2)) rfl ?_
        obtain ⟨x7_, g8_, h⟩ := rv_b_e h
        refine re_aL (pc := 26) g8_ (by decide +kernel : decode cX5_addCoin 26 = .ok (.laload, 1)) ?_
        refine re_aloadn (pc := 27) 0 (by decide +kernel : decode cX5_addCoin 27 = .ok (.aload_n 0, 1)) rfl ?_
        obtain ⟨a9_, g10_, h⟩ := rv_b_e h
        refine re_gR (pc := 28) g10_ lfX5_11 rfl (by decide +kernel : decode cX5_addCoin 28 = .ok (.getfield 11, 3)) ?_
        refine re_iload (pc := 31) 3 (by decide +kernel : decode cX5_addCoin 31 = .ok (.iload 4, 2)) rfl ?_
        refine re_iloadn (pc := 33) 2 (by decide +kernel : decode cX5_addCoin 33 = .ok (.iload_n 2, 1)) rfl ?_
        refine re_isub (pc := 34) (by decide +kernel : decode cX5_addCoin 34 = .ok (.isub, 1)) ?_
        obtain ⟨x11_, g12_, h⟩ := rv_b_e h
        refine re_aL (pc := 35) g12_ (by decide +kernel : decode cX5_addCoin 35 = .ok (.laload, 1)) ?_
        refine re_iloadn (pc := 36) 1 (by decide +kernel : decode cX5_addCoin 36 = .ok (.iload_n 1, 1)) rfl ?_
        obtain ⟨x14_, g15_, h⟩ := rv_b_e h
        have m13_ := metX5_heavier n S x11_ x1 _ g15_
        refine re_cS (pc := 37) [.long x11_, .int x1] m13_ (rv_okl.k ⟨rfl, rfl⟩) (rv_up.rf _ _) (by decide) (Nat.le_of_ble_eq_true rfl) lSX5_46 rfl (by decide +kernel : decode cX5_addCoin 37 = .ok (.invokestatic 46, 3)) ?_
        refine re_mmaxL (pc := 40) (rw4 65 (by decide +kernel) rfl) (by decide) (Nat.le_of_ble_eq_true rfl) (by decide +kernel : decode cX5_addCoin 40 = .ok (.invokestatic 50, 3)) ?_
        obtain ⟨S16_, g17_, h⟩ := rv_b_e h
        refine re_uL (pc := 43) g17_ (by decide +kernel : decode cX5_addCoin 43 = .ok (.lastore, 1)) ?_
        obtain ⟨x18_, g19_, h⟩ := rv_lt_e h
        refine re_iinc (pc := 44) 3 x18_ (lv1 := [(4, .int x18_), (0, .ref a0), (1, .int x1), (2, .int x2)]) (by decide +kernel : decode cX5_addCoin 44 = .ok (.iinc 4 (-1), 3)) rfl g19_ (by decide) rfl ?_
        refine re_goto (pc := 47) 3 (by decide +kernel : decode cX5_addCoin 47 = .ok (.goto (-44), 3)) (by decide) ?_
        refine re_sub [1, 2, 3, 0] (lv1 := [(0, .ref a0), (1, .int x1), (2, .int x2), (4, .int x18_)]) rfl ?_
        exact ih S16_ a0 x1 x2 x18_ _ h
noncomputable def fnX5_addCoin (n : Nat) (S : rvS) (a0 : Nat) (x1 : Int32) (x2 : Int32) (x3 : Int32) : Option rvS :=
  cX5_addCoin_3 n n S a0 x1 x2 x3
set_option maxRecDepth 20000 in
set_option maxHeartbeats 4000000 in
theorem eX5_addCoin_in (n : Nat) (S : rvS) (a0 : Nat) (x1 : Int32) (x2 : Int32) (x3 : Int32) (S' : rvS) (h : fnX5_addCoin n S a0 x1 x2 x3 = some S') : rv_Ev mX5_addCoin 1 0 [(0, .ref a0), (1, .int x1), (2, .int x2), (3, .int x3)] [] S none S' := by
  unfold fnX5_addCoin at h
  refine re_iloadn (pc := 0) 3 (by decide +kernel : decode cX5_addCoin 0 = .ok (.iload_n 3, 1)) rfl ?_
  refine re_istore (pc := 1) (lv1 := [(4, .int x3), (0, .ref a0), (1, .int x1), (2, .int x2), (3, .int x3)]) (by decide +kernel : decode cX5_addCoin 1 = .ok (.istore 4, 2)) (by decide) rfl ?_
  refine re_sub [1, 2, 3, 0] (lv1 := [(0, .ref a0), (1, .int x1), (2, .int x2), (4, .int x3)]) rfl ?_
  exact eX5_addCoin_3 n n S a0 x1 x2 x3 _ h
theorem metX5_addCoin (n : Nat) (S : rvS) (a0 : Nat) (x1 : Int32) (x2 : Int32) (x3 : Int32) (S' : rvS) (h : fnX5_addCoin n S a0 x1 x2 x3 = some S') : rv_Met yX5_addCoin mX5_addCoin 1 [.ref a0, .int x1, .int x2, .int x3] S none S' := rv_Met.of ⟨by decide +kernel, rfl, (fun z => by first | rfl | cases z), rfl⟩ (Nat.le_of_ble_eq_true rfl) rfl (eX5_addCoin_in n S a0 x1 x2 x3 S' h)
noncomputable def cX5_take_52 (n : Nat) (S : rvS) (a0 : Nat) : Option (Int32 × rvS) :=
  (rv_gL S 4 a0 2).bind fun x1_ =>
  (fnJ13_bitCount_95d88 n S x1_).bind fun x4_ =>
  some (x4_, S)
set_option maxRecDepth 20000 in
set_option maxHeartbeats 4000000 in
theorem eX5_take_52 (n : Nat) (S : rvS) (a0 : Nat) (r : Int32) (S' : rvS) (h : cX5_take_52 n S a0 = some (r, S')) : rv_Ev mX5_take 1 52 [(0, .ref a0)] [] S (some (.int r)) S' := by
  unfold cX5_take_52 at h
  refine re_aloadn (pc := 52) 0 (by decide +kernel : decode cX5_take 52 = .ok (.aload_n 0, 1)) rfl ?_
  obtain ⟨x1_, g2_, h⟩ := rv_b_e h
  refine re_gL (pc := 53) g2_ lfX5_58 rfl (by decide +kernel : decode cX5_take 53 = .ok (.getfield 58, 3)) ?_
  obtain ⟨x4_, g5_, h⟩ := rv_b_e h
  have m3_ := metJ13_bitCount_95d88 n S x1_ _ g5_
  refine re_cS (pc := 56) [.long x1_] m3_ (rv_okl.k ⟨rfl, rfl⟩) (rv_up.rf _ _) (by decide) (Nat.le_of_ble_eq_true rfl) lSX5_62 rfl (by decide +kernel : decode cX5_take 56 = .ok (.invokestatic 62, 3)) ?_
  cases h
  exact re_iret (fun ty hty => by cases hty; rfl) (by decide +kernel : decode cX5_take 59 = .ok (.ireturn, 1))
noncomputable def cX5_take_15 (n : Nat) : Nat → rvS → Nat → Int64 → Int32 → Option (Int32 × rvS)
  | 0, _, _, _, _ => none
  | k + 1, S, a0, x1, x3 =>
    if (40 : Int32) ≤ x3 then (
      cX5_take_52 n S a0)
    else (
      if (lg_cmp (((x1.toUInt64 >>> (((39 : Int32) - x3).toInt64.toUInt64 &&& Int64.toUInt64 63)).toInt64) &&& (1 : Int64)) (0 : Int64)) = 0 then (
        rv_lt (x3 + (1)) fun x3_ =>
        cX5_take_15 n k S a0 x1 x3_)
      else (
        (rv_gL S 4 a0 2).bind fun x5_ =>
        (rv_pL S 4 a0 2 (x5_ ||| ((1 : Int64) <<< (x3.toInt64 &&& 63)))).bind fun S7_ =>
        rv_lt (x3 + (1)) fun x9_ =>
        cX5_take_15 n k S7_ a0 x1 x9_))
set_option maxRecDepth 20000 in
set_option maxHeartbeats 4000000 in
theorem eX5_take_15 (n : Nat) : ∀ (k : Nat) (S : rvS) (a0 : Nat) (x1 : Int64) (x3 : Int32) (r : Int32) (S' : rvS), cX5_take_15 n k S a0 x1 x3 = some (r, S') → rv_Ev mX5_take 1 15 [(0, .ref a0), (1, .long x1), (3, .int x3)] [] S (some (.int r)) S' := by
  intro k
  induction k with
  | zero => intro S a0 x1 x3 r S' h; exact absurd h (by simp [cX5_take_15])
  | succ k ih =>
    intro S a0 x1 x3 r S' h
    unfold cX5_take_15 at h
    refine re_iloadn (pc := 15) 2 (by decide +kernel : decode cX5_take 15 = .ok (.iload_n 3, 1)) rfl ?_
    refine re_bipush (pc := 16) (40 : Int32) (by decide +kernel : decode cX5_take 16 = .ok (.bipush 40, 2)) (by decide) ?_
    rcases rv_if_e h with ⟨g1_, h⟩ | ⟨g1_, h⟩
    · refine re_icmp_ge_t (pc := 18) 52 (by decide +kernel : decode cX5_take 18 = .ok (.if_icmp .ge 34, 3)) (by decide) g1_ ?_
      refine re_sub [0] (lv1 := [(0, .ref a0)]) rfl ?_
      exact eX5_take_52 n S a0 _ _ h
    · refine re_icmp_ge_f (pc := 18) 52 (by decide +kernel : decode cX5_take 18 = .ok (.if_icmp .ge 34, 3)) (by decide) g1_ ?_
      refine re_lloadn (pc := 21) 1 (by decide +kernel : decode cX5_take 21 = .ok (.lload_n 1, 1)) rfl ?_
      refine re_bipush (pc := 22) (39 : Int32) (by decide +kernel : decode cX5_take 22 = .ok (.bipush 39, 2)) (by decide) ?_
      refine re_iloadn (pc := 24) 2 (by decide +kernel : decode cX5_take 24 = .ok (.iload_n 3, 1)) rfl ?_
      refine re_isub (pc := 25) (by decide +kernel : decode cX5_take 25 = .ok (.isub, 1)) ?_
      refine re_lushr (pc := 26) (by decide +kernel : decode cX5_take 26 = .ok (.lushr, 1)) ?_
      refine re_lconst (pc := 27) (1 : Int64) (by decide +kernel : decode cX5_take 27 = .ok (.lconst 1, 1)) (by decide) ?_
      refine re_land (pc := 28) (by decide +kernel : decode cX5_take 28 = .ok (.land, 1)) ?_
      refine re_lconst (pc := 29) (0 : Int64) (by decide +kernel : decode cX5_take 29 = .ok (.lconst 0, 1)) (by decide) ?_
      refine re_lcmp (pc := 30) (by decide +kernel : decode cX5_take 30 = .ok (.lcmp, 1)) ?_
      rcases rv_if_e h with ⟨g2_, h⟩ | ⟨g2_, h⟩
      · refine re_if_eq_t (pc := 31) 46 (by decide +kernel : decode cX5_take 31 = .ok (.ifCond .eq 15, 3)) (by decide) g2_ ?_
        obtain ⟨x3_, g4_, h⟩ := rv_lt_e h
        refine re_iinc (pc := 46) 2 x3_ (lv1 := [(3, .int x3_), (0, .ref a0), (1, .long x1)]) (by decide +kernel : decode cX5_take 46 = .ok (.iinc 3 1, 3)) rfl g4_ (by decide) rfl ?_
        refine re_goto (pc := 49) 15 (by decide +kernel : decode cX5_take 49 = .ok (.goto (-34), 3)) (by decide) ?_
        refine re_sub [1, 2, 0] (lv1 := [(0, .ref a0), (1, .long x1), (3, .int x3_)]) rfl ?_
        exact ih S a0 x1 x3_ _ _ h
      · refine re_if_eq_f (pc := 31) 46 (by decide +kernel : decode cX5_take 31 = .ok (.ifCond .eq 15, 3)) (by decide) g2_ ?_
        refine re_aloadn (pc := 34) 0 (by decide +kernel : decode cX5_take 34 = .ok (.aload_n 0, 1)) rfl ?_
        refine re_dup (pc := 35) (by decide +kernel : decode cX5_take 35 = .ok (.dup, 1)) rfl ?_
        obtain ⟨x5_, g6_, h⟩ := rv_b_e h
        refine re_gL (pc := 36) g6_ lfX5_58 rfl (by decide +kernel : decode cX5_take 36 = .ok (.getfield 58, 3)) ?_
        refine re_lconst (pc := 39) (1 : Int64) (by decide +kernel : decode cX5_take 39 = .ok (.lconst 1, 1)) (by decide) ?_
        refine re_iloadn (pc := 40) 2 (by decide +kernel : decode cX5_take 40 = .ok (.iload_n 3, 1)) rfl ?_
        refine re_lshl (pc := 41) (by decide +kernel : decode cX5_take 41 = .ok (.lshl, 1)) ?_
        refine re_lor (pc := 42) (by decide +kernel : decode cX5_take 42 = .ok (.lor, 1)) ?_
        obtain ⟨S7_, g8_, h⟩ := rv_b_e h
        refine re_pL (pc := 43) g8_ lfX5_58 rfl rfl rfl rfl (by decide +kernel : decode cX5_take 43 = .ok (.putfield 58, 3)) ?_
        obtain ⟨x9_, g10_, h⟩ := rv_lt_e h
        refine re_iinc (pc := 46) 2 x9_ (lv1 := [(3, .int x9_), (0, .ref a0), (1, .long x1)]) (by decide +kernel : decode cX5_take 46 = .ok (.iinc 3 1, 3)) rfl g10_ (by decide) rfl ?_
        refine re_goto (pc := 49) 15 (by decide +kernel : decode cX5_take 49 = .ok (.goto (-34), 3)) (by decide) ?_
        refine re_sub [1, 2, 0] (lv1 := [(0, .ref a0), (1, .long x1), (3, .int x9_)]) rfl ?_
        exact ih S7_ a0 x1 x9_ _ _ h
noncomputable def fnX5_take (n : Nat) (S : rvS) (a0 : Nat) (x1 : Int64) : Option (Int32 × rvS) :=
  if (lg_cmp x1 (0 : Int64)) = 0 then (
    some ((-1 : Int32), S))
  else (
    (rv_pL S 4 a0 2 (0 : Int64)).bind fun S2_ =>
    cX5_take_15 n n S2_ a0 x1 (0 : Int32))
set_option maxRecDepth 20000 in
set_option maxHeartbeats 4000000 in
theorem eX5_take_in (n : Nat) (S : rvS) (a0 : Nat) (x1 : Int64) (r : Int32) (S' : rvS) (h : fnX5_take n S a0 x1 = some (r, S')) : rv_Ev mX5_take 1 0 [(0, .ref a0), (1, .long x1)] [] S (some (.int r)) S' := by
  unfold fnX5_take at h
  refine re_lloadn (pc := 0) 1 (by decide +kernel : decode cX5_take 0 = .ok (.lload_n 1, 1)) rfl ?_
  refine re_lconst (pc := 1) (0 : Int64) (by decide +kernel : decode cX5_take 1 = .ok (.lconst 0, 1)) (by decide) ?_
  refine re_lcmp (pc := 2) (by decide +kernel : decode cX5_take 2 = .ok (.lcmp, 1)) ?_
  rcases rv_if_e h with ⟨g1_, h⟩ | ⟨g1_, h⟩
  · refine re_if_ne_f (pc := 3) 8 (by decide +kernel : decode cX5_take 3 = .ok (.ifCond .ne 5, 3)) (by decide) g1_ ?_
    refine re_iconst (pc := 6) (-1 : Int32) (by decide +kernel : decode cX5_take 6 = .ok (.iconst (-1), 1)) (by decide) ?_
    cases h
    exact re_iret (fun ty hty => by cases hty; rfl) (by decide +kernel : decode cX5_take 7 = .ok (.ireturn, 1))
  · refine re_if_ne_t (pc := 3) 8 (by decide +kernel : decode cX5_take 3 = .ok (.ifCond .ne 5, 3)) (by decide) g1_ ?_
    refine re_aloadn (pc := 8) 0 (by decide +kernel : decode cX5_take 8 = .ok (.aload_n 0, 1)) rfl ?_
    refine re_lconst (pc := 9) (0 : Int64) (by decide +kernel : decode cX5_take 9 = .ok (.lconst 0, 1)) (by decide) ?_
    obtain ⟨S2_, g3_, h⟩ := rv_b_e h
    refine re_pL (pc := 10) g3_ lfX5_58 rfl rfl rfl rfl (by decide +kernel : decode cX5_take 10 = .ok (.putfield 58, 3)) ?_
    refine re_iconst (pc := 13) (0 : Int32) (by decide +kernel : decode cX5_take 13 = .ok (.iconst 0, 1)) (by decide) ?_
    refine re_istoren (pc := 14) (lv1 := [(3, .int (0 : Int32)), (0, .ref a0), (1, .long x1)]) (by decide +kernel : decode cX5_take 14 = .ok (.istore_n 3, 1)) rfl (by decide) rfl ?_
    refine re_sub [1, 2, 0] (lv1 := [(0, .ref a0), (1, .long x1), (3, .int (0 : Int32))]) rfl ?_
    exact eX5_take_15 n n S2_ a0 x1 (0 : Int32) _ _ h
theorem metX5_take (n : Nat) (S : rvS) (a0 : Nat) (x1 : Int64) (r : Int32) (S' : rvS) (h : fnX5_take n S a0 x1 = some (r, S')) : rv_Met yX5_take mX5_take 1 [.ref a0, .long x1] S (some (.int r)) S' := rv_Met.of ⟨by decide +kernel, rfl, (fun z => by first | rfl | cases z), rfl⟩ (Nat.le_of_ble_eq_true rfl) rfl (eX5_take_in n S a0 x1 r S' h)
