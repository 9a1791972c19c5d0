noncomputable def cX13_pass_79 (n : Nat) (S : rvS) (a0 : Nat) (x1 : Int32) (x2 : Int32) : Option rvS :=
  (rv_gR S 11 a0 24).bind fun a1_ =>
  (rv_uI S a1_ (1 : Int32) x2).bind fun S3_ =>
  (rv_gR S3_ 11 a0 24).bind fun a5_ =>
  (rv_uI S3_ a5_ (0 : Int32) x1).bind fun S7_ =>
  some S7_
set_option maxRecDepth 20000 in
set_option maxHeartbeats 4000000 in
theorem eX13_pass_79 (n : Nat) (S : rvS) (a0 : Nat) (x1 : Int32) (x2 : Int32) (S' : rvS) (h : cX13_pass_79 n S a0 x1 x2 = some S') : rv_Ev mX13_pass 0 79 [(0, .ref a0), (1, .int x1), (2, .int x2)] [] S none S' := by
  unfold cX13_pass_79 at h
  refine re_aloadn (pc := 79) 0 (by decide +kernel : decode cX13_pass 79 = .ok (.aload_n 0, 1)) rfl ?_
  obtain ⟨a1_, g2_, h⟩ := rv_b_e h
  refine re_gR (pc := 80) g2_ lfX13_39 rfl (by decide +kernel : decode cX13_pass 80 = .ok (.getfield 39, 3)) ?_
  refine re_iconst (pc := 83) (1 : Int32) (by decide +kernel : decode cX13_pass 83 = .ok (.iconst 1, 1)) (by decide) ?_
  refine re_iloadn (pc := 84) 2 (by decide +kernel : decode cX13_pass 84 = .ok (.iload_n 2, 1)) rfl ?_
  obtain ⟨S3_, g4_, h⟩ := rv_b_e h
  refine re_uI (pc := 85) g4_ (by decide +kernel : decode cX13_pass 85 = .ok (.iastore, 1)) ?_
  refine re_aloadn (pc := 86) 0 (by decide +kernel : decode cX13_pass 86 = .ok (.aload_n 0, 1)) rfl ?_
  obtain ⟨a5_, g6_, h⟩ := rv_b_e h
  refine re_gR (pc := 87) g6_ lfX13_39 rfl (by decide +kernel : decode cX13_pass 87 = .ok (.getfield 39, 3)) ?_
  refine re_iconst (pc := 90) (0 : Int32) (by decide +kernel : decode cX13_pass 90 = .ok (.iconst 0, 1)) (by decide) ?_
  refine re_iloadn (pc := 91) 1 (by decide +kernel : decode cX13_pass 91 = .ok (.iload_n 1, 1)) rfl ?_
  obtain ⟨S7_, g8_, h⟩ := rv_b_e h
  refine re_uI (pc := 92) g8_ (by decide +kernel : decode cX13_pass 92 = .ok (.iastore, 1)) ?_
  cases h
  exact re_vret (by decide +kernel : decode cX13_pass 93 = .ok (.return_, 1))
noncomputable def cX13_pass_63 (n : Nat) (S : rvS) (a0 : Nat) (x1 : Int32) (x2 : Int32) : Option rvS :=
  if x2 ≤ 0 then (
    cX13_pass_79 n S a0 x1 x2)
  else (
    (rv_gR S 11 a0 24).bind fun a2_ =>
    (rv_gR S 11 a0 24).bind fun a4_ =>
    (rv_aI S 0 a4_ (0 : Int32)).bind fun x6_ =>
    (rv_uI S a2_ (2 : Int32) x6_).bind fun S8_ =>
    cX13_pass_79 n S8_ a0 x1 x2)
set_option maxRecDepth 20000 in
set_option maxHeartbeats 4000000 in
theorem eX13_pass_63 (n : Nat) (S : rvS) (a0 : Nat) (x1 : Int32) (x2 : Int32) (S' : rvS) (h : cX13_pass_63 n S a0 x1 x2 = some S') : rv_Ev mX13_pass 0 63 [(0, .ref a0), (1, .int x1), (2, .int x2)] [] S none S' := by
  unfold cX13_pass_63 at h
  refine re_iloadn (pc := 63) 2 (by decide +kernel : decode cX13_pass 63 = .ok (.iload_n 2, 1)) rfl ?_
  rcases rv_if_e h with ⟨g1_, h⟩ | ⟨g1_, h⟩
  · refine re_if_le_t (pc := 64) 79 (by decide +kernel : decode cX13_pass 64 = .ok (.ifCond .le 15, 3)) (by decide) g1_ ?_
    exact eX13_pass_79 n S a0 x1 x2 _ h
  · refine re_if_le_f (pc := 64) 79 (by decide +kernel : decode cX13_pass 64 = .ok (.ifCond .le 15, 3)) (by decide) g1_ ?_
    refine re_aloadn (pc := 67) 0 (by decide +kernel : decode cX13_pass 67 = .ok (.aload_n 0, 1)) rfl ?_
    obtain ⟨a2_, g3_, h⟩ := rv_b_e h
    refine re_gR (pc := 68) g3_ lfX13_39 rfl (by decide +kernel : decode cX13_pass 68 = .ok (.getfield 39, 3)) ?_
    refine re_iconst (pc := 71) (2 : Int32) (by decide +kernel : decode cX13_pass 71 = .ok (.iconst 2, 1)) (by decide) ?_
    refine re_aloadn (pc := 72) 0 (by decide +kernel : decode cX13_pass 72 = .ok (.aload_n 0, 1)) rfl ?_
    obtain ⟨a4_, g5_, h⟩ := rv_b_e h
    refine re_gR (pc := 73) g5_ lfX13_39 rfl (by decide +kernel : decode cX13_pass 73 = .ok (.getfield 39, 3)) ?_
    refine re_iconst (pc := 76) (0 : Int32) (by decide +kernel : decode cX13_pass 76 = .ok (.iconst 0, 1)) (by decide) ?_
    obtain ⟨x6_, g7_, h⟩ := rv_b_e h
    refine re_aI (pc := 77) g7_ (by decide +kernel : decode cX13_pass 77 = .ok (.iaload, 1)) ?_
    obtain ⟨S8_, g9_, h⟩ := rv_b_e h
    refine re_uI (pc := 78) g9_ (by decide +kernel : decode cX13_pass 78 = .ok (.iastore, 1)) ?_
    exact eX13_pass_79 n S8_ a0 x1 x2 _ h
noncomputable def cX13_pass_37 (n : Nat) : Nat → rvS → Nat → Int32 → Int32 → Int32 → Option rvS
  | 0, _, _, _, _, _ => none
  | k + 1, S, a0, x1, x2, x3 =>
    if x3 ≤ 0 then (
      cX13_pass_63 n S a0 x1 x2)
    else (
      (rv_gR S 11 a0 24).bind fun a2_ =>
      (rv_gR S 11 a0 24).bind fun a4_ =>
      (rv_aI S 0 a4_ ((1 : Int32) + x3)).bind fun x6_ =>
      (rv_uI S a2_ ((2 : Int32) + x3) x6_).bind fun S8_ =>
      rv_lt (x3 + (-1)) fun x10_ =>
      cX13_pass_37 n k S8_ a0 x1 x2 x10_)
set_option maxRecDepth 20000 in
set_option maxHeartbeats 4000000 in
theorem eX13_pass_37 (n : Nat) : ∀ (k : Nat) (S : rvS) (a0 : Nat) (x1 : Int32) (x2 : Int32) (x3 : Int32) (S' : rvS), cX13_pass_37 n k S a0 x1 x2 x3 = some S' → rv_Ev mX13_pass 0 37 [(0, .ref a0), (1, .int x1), (2, .int x2), (3, .int x3)] [] S none S' := by
  intro k
  induction k with
  | zero => intro S a0 x1 x2 x3 S' h; exact absurd h (by simp [cX13_pass_37])
  | succ k ih =>
    intro S a0 x1 x2 x3 S' h
    unfold cX13_pass_37 at h
    refine re_iloadn (pc := 37) 3 (by decide +kernel : decode cX13_pass 37 = .ok (.iload_n 3, 1)) rfl ?_
    rcases rv_if_e h with ⟨g1_, h⟩ | ⟨g1_, h⟩
    · refine re_if_le_t (pc := 38) 63 (by decide +kernel : decode cX13_pass 38 = .ok (.ifCond .le 25, 3)) (by decide) g1_ ?_
      refine re_sub [0, 1, 2] (lv1 := [(0, .ref a0), (1, .int x1), (2, .int x2)]) rfl ?_
      exact eX13_pass_63 n S a0 x1 x2 _ h
    · refine re_if_le_f (pc := 38) 63 (by decide +kernel : decode cX13_pass 38 = .ok (.ifCond .le 25, 3)) (by decide) g1_ ?_
      refine re_aloadn (pc := 41) 0 (by decide +kernel : decode cX13_pass 41 = .ok (.aload_n 0, 1)) rfl ?_
      obtain ⟨a2_, g3_, h⟩ := rv_b_e h
      refine re_gR (pc := 42) g3_ lfX13_39 rfl (by decide +kernel : decode cX13_pass 42 = .ok (.getfield 39, 3)) ?_
      refine re_iconst (pc := 45) (2 : Int32) (by decide +kernel : decode cX13_pass 45 = .ok (.iconst 2, 1)) (by decide) ?_
      refine re_iloadn (pc := 46) 3 (by decide +kernel : decode cX13_pass 46 = .ok (.iload_n 3, 1)) rfl ?_
      refine re_iadd (pc := 47) (by decide +kernel : decode cX13_pass 47 = .ok (.iadd, 1)) ?_
      refine re_aloadn (pc := 48) 0 (by decide +kernel : decode cX13_pass 48 = .ok (.aload_n 0, 1)) rfl ?_
      obtain ⟨a4_, g5_, h⟩ := rv_b_e h
      refine re_gR (pc := 49) g5_ lfX13_39 rfl (by decide +kernel : decode cX13_pass 49 = .ok (.getfield 39, 3)) ?_
      refine re_iconst (pc := 52) (1 : Int32) (by decide +kernel : decode cX13_pass 52 = .ok (.iconst 1, 1)) (by decide) ?_
      refine re_iloadn (pc := 53) 3 (by decide +kernel : decode cX13_pass 53 = .ok (.iload_n 3, 1)) rfl ?_
      refine re_iadd (pc := 54) (by decide +kernel : decode cX13_pass 54 = .ok (.iadd, 1)) ?_
      obtain ⟨x6_, g7_, h⟩ := rv_b_e h
      refine re_aI (pc := 55) g7_ (by decide +kernel : decode cX13_pass 55 = .ok (.iaload, 1)) ?_
      obtain ⟨S8_, g9_, h⟩ := rv_b_e h
      refine re_uI (pc := 56) g9_ (by decide +kernel : decode cX13_pass 56 = .ok (.iastore, 1)) ?_
      obtain ⟨x10_, g11_, h⟩ := rv_lt_e h
      refine re_iinc (pc := 57) 3 x10_ (lv1 := [(3, .int x10_), (0, .ref a0), (1, .int x1), (2, .int x2)]) (by decide +kernel : decode cX13_pass 57 = .ok (.iinc 3 (-1), 3)) rfl g11_ (by decide) rfl ?_
      refine re_goto (pc := 60) 37 (by decide +kernel : decode cX13_pass 60 = .ok (.goto (-23), 3)) (by decide) ?_
      refine re_sub [1, 2, 3, 0] (lv1 := [(0, .ref a0), (1, .int x1), (2, .int x2), (3, .int x10_)]) rfl ?_
      exact ih S8_ a0 x1 x2 x10_ _ h
noncomputable def fnX13_pass (n : Nat) (S : rvS) (a0 : Nat) (x1 : Int32) : Option rvS :=
  (rv_gR S 11 a0 24).bind fun a1_ =>
  (rv_aI S 0 a1_ (1 : Int32)).bind fun x3_ =>
  (rv_gR S 11 a0 14).bind fun a5_ =>
  (rv_aI S 0 a5_ (3 : Int32)).bind fun x7_ =>
  if x7_ ≤ x3_ then (
    (rv_gR S 11 a0 14).bind fun a10_ =>
    (rv_aI S 0 a10_ (3 : Int32)).bind fun x12_ =>
    rv_lt (x12_ - (1 : Int32)) fun x14_ =>
    cX13_pass_37 n n S a0 x1 x12_ x14_)
  else (
    (rv_gR S 11 a0 24).bind fun a16_ =>
    (rv_aI S 0 a16_ (1 : Int32)).bind fun x18_ =>
    rv_lt (x18_ + (1 : Int32)) fun x20_ =>
    rv_lt (x20_ - (1 : Int32)) fun x22_ =>
    cX13_pass_37 n n S a0 x1 x20_ x22_)
set_option maxRecDepth 20000 in
set_option maxHeartbeats 4000000 in
theorem eX13_pass_in (n : Nat) (S : rvS) (a0 : Nat) (x1 : Int32) (S' : rvS) (h : fnX13_pass n S a0 x1 = some S') : rv_Ev mX13_pass 0 0 [(0, .ref a0), (1, .int x1)] [] S none S' := by
  unfold fnX13_pass at h
  refine re_aloadn (pc := 0) 0 (by decide +kernel : decode cX13_pass 0 = .ok (.aload_n 0, 1)) rfl ?_
  obtain ⟨a1_, g2_, h⟩ := rv_b_e h
  refine re_gR (pc := 1) g2_ lfX13_39 rfl (by decide +kernel : decode cX13_pass 1 = .ok (.getfield 39, 3)) ?_
  refine re_iconst (pc := 4) (1 : Int32) (by decide +kernel : decode cX13_pass 4 = .ok (.iconst 1, 1)) (by decide) ?_
  obtain ⟨x3_, g4_, h⟩ := rv_b_e h
  refine re_aI (pc := 5) g4_ (by decide +kernel : decode cX13_pass 5 = .ok (.iaload, 1)) ?_
  refine re_aloadn (pc := 6) 0 (by decide +kernel : decode cX13_pass 6 = .ok (.aload_n 0, 1)) rfl ?_
  obtain ⟨a5_, g6_, h⟩ := rv_b_e h
  refine re_gR (pc := 7) g6_ lfX13_13 rfl (by decide +kernel : decode cX13_pass 7 = .ok (.getfield 13, 3)) ?_
  refine re_iconst (pc := 10) (3 : Int32) (by decide +kernel : decode cX13_pass 10 = .ok (.iconst 3, 1)) (by decide) ?_
  obtain ⟨x7_, g8_, h⟩ := rv_b_e h
  refine re_aI (pc := 11) g8_ (by decide +kernel : decode cX13_pass 11 = .ok (.iaload, 1)) ?_
  rcases rv_if_e h with ⟨g9_, h⟩ | ⟨g9_, h⟩
  · refine re_icmp_ge_t (pc := 12) 26 (by decide +kernel : decode cX13_pass 12 = .ok (.if_icmp .ge 14, 3)) (by decide) g9_ ?_
    refine re_aloadn (pc := 26) 0 (by decide +kernel : decode cX13_pass 26 = .ok (.aload_n 0, 1)) rfl ?_
    obtain ⟨a10_, g11_, h⟩ := rv_b_e h
    refine re_gR (pc := 27) g11_ lfX13_13 rfl (by decide +kernel : decode cX13_pass 27 = .ok (.getfield 13, 3)) ?_
    refine re_iconst (pc := 30) (3 : Int32) (by decide +kernel : decode cX13_pass 30 = .ok (.iconst 3, 1)) (by decide) ?_
    obtain ⟨x12_, g13_, h⟩ := rv_b_e h
    refine re_aI (pc := 31) g13_ (by decide +kernel : decode cX13_pass 31 = .ok (.iaload, 1)) ?_
    refine re_istoren (pc := 32) (lv1 := [(2, .int x12_), (0, .ref a0), (1, .int x1)]) (by decide +kernel : decode cX13_pass 32 = .ok (.istore_n 2, 1)) rfl (by decide) rfl ?_
    refine re_iloadn (pc := 33) 0 (by decide +kernel : decode cX13_pass 33 = .ok (.iload_n 2, 1)) rfl ?_
    refine re_iconst (pc := 34) (1 : Int32) (by decide +kernel : decode cX13_pass 34 = .ok (.iconst 1, 1)) (by decide) ?_
    refine re_isub (pc := 35) (by decide +kernel : decode cX13_pass 35 = .ok (.isub, 1)) ?_
    obtain ⟨x14_, g15_, h⟩ := rv_lt_e h
    refine re_nI (pc := 36) g15_ ?_
    refine re_istoren (pc := 36) (lv1 := [(3, .int x14_), (2, .int x12_), (0, .ref a0), (1, .int x1)]) (by decide +kernel : decode cX13_pass 36 = .ok (.istore_n 3, 1)) rfl (by decide) rfl ?_
    refine re_sub [2, 3, 1, 0] (lv1 := [(0, .ref a0), (1, .int x1), (2, .int x12_), (3, .int x14_)]) rfl ?_
    exact eX13_pass_37 n n S a0 x1 x12_ x14_ _ h
  · refine re_icmp_ge_f (pc := 12) 26 (by decide +kernel : decode cX13_pass 12 = .ok (.if_icmp .ge 14, 3)) (by decide) g9_ ?_
    refine re_aloadn (pc := 15) 0 (by decide +kernel : decode cX13_pass 15 = .ok (.aload_n 0, 1)) rfl ?_
    obtain ⟨a16_, g17_, h⟩ := rv_b_e h
    refine re_gR (pc := 16) g17_ lfX13_39 rfl (by decide +kernel : decode cX13_pass 16 = .ok (.getfield 39, 3)) ?_
    refine re_iconst (pc := 19) (1 : Int32) (by decide +kernel : decode cX13_pass 19 = .ok (.iconst 1, 1)) (by decide) ?_
    obtain ⟨x18_, g19_, h⟩ := rv_b_e h
    refine re_aI (pc := 20) g19_ (by decide +kernel : decode cX13_pass 20 = .ok (.iaload, 1)) ?_
    refine re_iconst (pc := 21) (1 : Int32) (by decide +kernel : decode cX13_pass 21 = .ok (.iconst 1, 1)) (by decide) ?_
    refine re_iadd (pc := 22) (by decide +kernel : decode cX13_pass 22 = .ok (.iadd, 1)) ?_
    refine re_goto (pc := 23) 32 (by decide +kernel : decode cX13_pass 23 = .ok (.goto 9, 3)) (by decide) ?_
    obtain ⟨x20_, g21_, h⟩ := rv_lt_e h
    refine re_nI (pc := 32) g21_ ?_
    refine re_istoren (pc := 32) (lv1 := [(2, .int x20_), (0, .ref a0), (1, .int x1)]) (by decide +kernel : decode cX13_pass 32 = .ok (.istore_n 2, 1)) rfl (by decide) rfl ?_
    refine re_iloadn (pc := 33) 0 (by decide +kernel : decode cX13_pass 33 = .ok (.iload_n 2, 1)) rfl ?_
    refine re_iconst (pc := 34) (1 : Int32) (by decide +kernel : decode cX13_pass 34 = .ok (.iconst 1, 1)) (by decide) ?_
    refine re_isub (pc := 35) (by decide +kernel : decode cX13_pass 35 = .ok (.isub, 1)) ?_
    obtain ⟨x22_, g23_, h⟩ := rv_lt_e h
    refine re_nI (pc := 36) g23_ ?_
    refine re_istoren (pc := 36) (lv1 := [(3, .int x22_), (2, .int x20_), (0, .ref a0), (1, .int x1)]) (by decide +kernel : decode cX13_pass 36 = .ok (.istore_n 3, 1)) rfl (by decide) rfl ?_
    refine re_sub [2, 3, 1, 0] (lv1 := [(0, .ref a0), (1, .int x1), (2, .int x20_), (3, .int x22_)]) rfl ?_
    exact eX13_pass_37 n n S a0 x1 x20_ x22_ _ h
theorem metX13_pass (n : Nat) (S : rvS) (a0 : Nat) (x1 : Int32) (S' : rvS) (h : fnX13_pass n S a0 x1 = some S') : rv_Met yX13_pass mX13_pass 0 [.ref a0, .int x1] S none S' := rv_Met.of ⟨by decide +kernel, rfl, (fun z => by first | rfl | cases z), rfl⟩ (Nat.le_of_ble_eq_true rfl) rfl (eX13_pass_in n S a0 x1 S' h)
noncomputable def cX13_goes_12 (n : Nat) : Nat → rvS → Nat → Int32 → Int32 → Option rvS
  | 0, _, _, _, _ => none
  | k + 1, S, a0, x1, x3 =>
    if (5 : Int32) ≤ x3 then (
      some S)
    else (
      (rv_gR S 11 a0 14).bind fun a2_ =>
      (rv_gR S 11 a0 24).bind fun a4_ =>
      (rv_aI S 0 a4_ x3).bind fun x6_ =>
      (rv_uI S a2_ ((((132 : Int32) + ((6 : Int32) * x1)) + (1 : Int32)) + x3) x6_).bind fun S8_ =>
      rv_lt (x3 + (1)) fun x10_ =>
      cX13_goes_12 n k S8_ a0 x1 x10_)
set_option maxRecDepth 20000 in
set_option maxHeartbeats 4000000 in
theorem eX13_goes_12 (n : Nat) : ∀ (k : Nat) (S : rvS) (a0 : Nat) (x1 : Int32) (x3 : Int32) (S' : rvS), cX13_goes_12 n k S a0 x1 x3 = some S' → rv_Ev mX13_goes 2 12 [(0, .ref a0), (1, .int x1), (3, .int x3)] [] S none S' := by
  intro k
  induction k with
  | zero => intro S a0 x1 x3 S' h; exact absurd h (by simp [cX13_goes_12])
  | succ k ih =>
    intro S a0 x1 x3 S' h
    unfold cX13_goes_12 at h
    refine re_iloadn (pc := 12) 2 (by decide +kernel : decode cX13_goes 12 = .ok (.iload_n 3, 1)) rfl ?_
    refine re_iconst (pc := 13) (5 : Int32) (by decide +kernel : decode cX13_goes 13 = .ok (.iconst 5, 1)) (by decide) ?_
    rcases rv_if_e h with ⟨g1_, h⟩ | ⟨g1_, h⟩
    · refine re_icmp_ge_t (pc := 14) 46 (by decide +kernel : decode cX13_goes 14 = .ok (.if_icmp .ge 32, 3)) (by decide) g1_ ?_
      cases h
      exact re_vret (by decide +kernel : decode cX13_goes 46 = .ok (.return_, 1))
    · refine re_icmp_ge_f (pc := 14) 46 (by decide +kernel : decode cX13_goes 14 = .ok (.if_icmp .ge 32, 3)) (by decide) g1_ ?_
      refine re_aloadn (pc := 17) 0 (by decide +kernel : decode cX13_goes 17 = .ok (.aload_n 0, 1)) rfl ?_
      obtain ⟨a2_, g3_, h⟩ := rv_b_e h
      refine re_gR (pc := 18) g3_ lfX13_13 rfl (by decide +kernel : decode cX13_goes 18 = .ok (.getfield 13, 3)) ?_
      refine re_sipush (pc := 21) (132 : Int32) (by decide +kernel : decode cX13_goes 21 = .ok (.sipush 132, 3)) (by decide) ?_
      refine re_bipush (pc := 24) (6 : Int32) (by decide +kernel : decode cX13_goes 24 = .ok (.bipush 6, 2)) (by decide) ?_
      refine re_iloadn (pc := 26) 1 (by decide +kernel : decode cX13_goes 26 = .ok (.iload_n 1, 1)) rfl ?_
      refine re_imul (pc := 27) (by decide +kernel : decode cX13_goes 27 = .ok (.imul, 1)) ?_
      refine re_iadd (pc := 28) (by decide +kernel : decode cX13_goes 28 = .ok (.iadd, 1)) ?_
      refine re_iconst (pc := 29) (1 : Int32) (by decide +kernel : decode cX13_goes 29 = .ok (.iconst 1, 1)) (by decide) ?_
      refine re_iadd (pc := 30) (by decide +kernel : decode cX13_goes 30 = .ok (.iadd, 1)) ?_
      refine re_iloadn (pc := 31) 2 (by decide +kernel : decode cX13_goes 31 = .ok (.iload_n 3, 1)) rfl ?_
      refine re_iadd (pc := 32) (by decide +kernel : decode cX13_goes 32 = .ok (.iadd, 1)) ?_
      refine re_aloadn (pc := 33) 0 (by decide +kernel : decode cX13_goes 33 = .ok (.aload_n 0, 1)) rfl ?_
      obtain ⟨a4_, g5_, h⟩ := rv_b_e h
      refine re_gR (pc := 34) g5_ lfX13_39 rfl (by decide +kernel : decode cX13_goes 34 = .ok (.getfield 39, 3)) ?_
      refine re_iloadn (pc := 37) 2 (by decide +kernel : decode cX13_goes 37 = .ok (.iload_n 3, 1)) rfl ?_
      obtain ⟨x6_, g7_, h⟩ := rv_b_e h
      refine re_aI (pc := 38) g7_ (by decide +kernel : decode cX13_goes 38 = .ok (.iaload, 1)) ?_
      obtain ⟨S8_, g9_, h⟩ := rv_b_e h
      refine re_uI (pc := 39) g9_ (by decide +kernel : decode cX13_goes 39 = .ok (.iastore, 1)) ?_
      obtain ⟨x10_, g11_, h⟩ := rv_lt_e h
      refine re_iinc (pc := 40) 2 x10_ (lv1 := [(3, .int x10_), (0, .ref a0), (1, .int x1)]) (by decide +kernel : decode cX13_goes 40 = .ok (.iinc 3 1, 3)) rfl g11_ (by decide) rfl ?_
      refine re_goto (pc := 43) 12 (by decide +kernel : decode cX13_goes 43 = .ok (.goto (-31), 3)) (by decide) ?_
      refine re_sub [1, 2, 0] (lv1 := [(0, .ref a0), (1, .int x1), (3, .int x10_)]) rfl ?_
      exact ih S8_ a0 x1 x10_ _ h
noncomputable def fnX13_goes (n : Nat) (S : rvS) (a0 : Nat) (x1 : Int32) (x2 : Int32) : Option rvS :=
  (rv_ck S 11 a0).bind fun u1_ =>
  (fnX13_hold n S a0 x1).bind fun S4_ =>
  (rv_ck S4_ 11 a0).bind fun u7_ =>
  (fnX13_pass n S4_ a0 x2).bind fun S10_ =>
  cX13_goes_12 n n S10_ a0 x1 (0 : Int32)
set_option maxRecDepth 20000 in
set_option maxHeartbeats 4000000 in
theorem eX13_goes_in (n : Nat) (S : rvS) (a0 : Nat) (x1 : Int32) (x2 : Int32) (S' : rvS) (h : fnX13_goes n S a0 x1 x2 = some S') : rv_Ev mX13_goes 2 0 [(0, .ref a0), (1, .int x1), (2, .int x2)] [] S none S' := by
  unfold fnX13_goes at h
  refine re_aloadn (pc := 0) 0 (by decide +kernel : decode cX13_goes 0 = .ok (.aload_n 0, 1)) rfl ?_
  refine re_iloadn (pc := 1) 1 (by decide +kernel : decode cX13_goes 1 = .ok (.iload_n 1, 1)) rfl ?_
  obtain ⟨u1_, g2_, h⟩ := rv_b_e h
  obtain ⟨S4_, g5_, h⟩ := rv_b_e h
  have m3_ := metX13_hold n S a0 x1 _ g5_
  have z6_ : rv_same S S4_ := m3_.sh rfl
  refine re_cV (pc := 2) [.int x1] m3_ (rv_okl.k z6_) (rv_up.sh z6_) (by decide) (rv_ck_e g2_) ⟨by decide, rfl⟩ (Nat.le_of_ble_eq_true rfl) lVX13_298 rfl (by decide +kernel : decode cX13_goes 2 = .ok (.invokevirtual 298, 3)) ?_
  refine re_aloadn (pc := 5) 0 (by decide +kernel : decode cX13_goes 5 = .ok (.aload_n 0, 1)) rfl ?_
  refine re_iloadn (pc := 6) 2 (by decide +kernel : decode cX13_goes 6 = .ok (.iload_n 2, 1)) rfl ?_
  obtain ⟨u7_, g8_, h⟩ := rv_b_e h
  obtain ⟨S10_, g11_, h⟩ := rv_b_e h
  have m9_ := metX13_pass n S4_ a0 x2 _ g11_
  have z12_ : rv_same S4_ S10_ := m9_.sh rfl
  refine re_cV (pc := 7) [.int x2] m9_ (rv_okl.k z12_) (rv_up.sh z12_) (by decide) (rv_ck_e g8_) ⟨by decide, rfl⟩ (Nat.le_of_ble_eq_true rfl) lVX13_301 rfl (by decide +kernel : decode cX13_goes 7 = .ok (.invokevirtual 301, 3)) ?_
  refine re_iconst (pc := 10) (0 : Int32) (by decide +kernel : decode cX13_goes 10 = .ok (.iconst 0, 1)) (by decide) ?_
  refine re_istoren (pc := 11) (lv1 := [(3, .int (0 : Int32)), (0, .ref a0), (1, .int x1), (2, .int x2)]) (by decide +kernel : decode cX13_goes 11 = .ok (.istore_n 3, 1)) rfl (by decide) rfl ?_
  refine re_sub [1, 2, 0] (lv1 := [(0, .ref a0), (1, .int x1), (3, .int (0 : Int32))]) rfl ?_
  exact eX13_goes_12 n n S10_ a0 x1 (0 : Int32) _ h
theorem metX13_goes (n : Nat) (S : rvS) (a0 : Nat) (x1 : Int32) (x2 : Int32) (S' : rvS) (h : fnX13_goes n S a0 x1 x2 = some S') : rv_Met yX13_goes mX13_goes 2 [.ref a0, .int x1, .int x2] S none S' := rv_Met.of ⟨by decide +kernel, rfl, (fun z => by first | rfl | cases z), rfl⟩ (Nat.le_of_ble_eq_true rfl) rfl (eX13_goes_in n S a0 x1 x2 S' h)
noncomputable def fnX13_why (n : Nat) (S : rvS) (a0 : Nat) (x1 : Int32) (x2 : Int32) : Option (Int32 × rvS) :=
  (rv_pI S 11 a0 0 (0 : Int32)).bind fun S1_ =>
  (rv_ck S1_ 11 a0).bind fun u3_ =>
  (fnX13_lay n S1_ a0).bind fun S6_ =>
  (rv_ck S6_ 11 a0).bind fun u9_ =>
  (fnX13_isCoin n S6_ a0 x1).bind fun x12_ =>
  if x12_ = 0 then (
    some ((-1 : Int32), S6_))
  else (
    (rv_ck S6_ 11 a0).bind fun u15_ =>
    (fnX13_isWho n S6_ a0 x2).bind fun x18_ =>
    if x18_ = 0 then (
      some ((-1 : Int32), S6_))
    else (
      (rv_ck S6_ 11 a0).bind fun u21_ =>
      rv_bp (fnX13_whyNot_ n S6_ a0 x1 x2) fun x24_ S25_ =>
      some (x24_, S25_)))
set_option maxRecDepth 20000 in
set_option maxHeartbeats 4000000 in
theorem eX13_why_in (n : Nat) (S : rvS) (a0 : Nat) (x1 : Int32) (x2 : Int32) (r : Int32) (S' : rvS) (h : fnX13_why n S a0 x1 x2 = some (r, S')) : rv_Ev mX13_why 4 0 [(0, .ref a0), (1, .int x1), (2, .int x2)] [] S (some (.int r)) S' := by
  unfold fnX13_why at h
  refine re_aloadn (pc := 0) 0 (by decide +kernel : decode cX13_why 0 = .ok (.aload_n 0, 1)) rfl ?_
  refine re_iconst (pc := 1) (0 : Int32) (by decide +kernel : decode cX13_why 1 = .ok (.iconst 0, 1)) (by decide) ?_
  obtain ⟨S1_, g2_, h⟩ := rv_b_e h
  refine re_pI (pc := 2) g2_ lfX13_99 rfl rfl rfl rfl (by decide +kernel : decode cX13_why 2 = .ok (.putfield 99, 3)) ?_
  refine re_aloadn (pc := 5) 0 (by decide +kernel : decode cX13_why 5 = .ok (.aload_n 0, 1)) rfl ?_
  obtain ⟨u3_, g4_, h⟩ := rv_b_e h
  obtain ⟨S6_, g7_, h⟩ := rv_b_e h
  have m5_ := metX13_lay n S1_ a0 _ g7_
  have z8_ : rv_same S1_ S6_ := m5_.sh rfl
  refine re_cV (pc := 6) [] m5_ (rv_okl.k z8_) (rv_up.sh z8_) (by decide) (rv_ck_e g4_) ⟨by decide, rfl⟩ (Nat.le_of_ble_eq_true rfl) lVX13_187 rfl (by decide +kernel : decode cX13_why 6 = .ok (.invokevirtual 187, 3)) ?_
  refine re_aloadn (pc := 9) 0 (by decide +kernel : decode cX13_why 9 = .ok (.aload_n 0, 1)) rfl ?_
  refine re_iloadn (pc := 10) 1 (by decide +kernel : decode cX13_why 10 = .ok (.iload_n 1, 1)) rfl ?_
  obtain ⟨u9_, g10_, h⟩ := rv_b_e h
  obtain ⟨x12_, g13_, h⟩ := rv_b_e h
  have m11_ := metX13_isCoin n S6_ a0 x1 _ g13_
  refine re_cV (pc := 11) [.int x1] m11_ (rv_okl.k ⟨rfl, rfl⟩) (rv_up.rf _ _) (by decide) (rv_ck_e g10_) ⟨by decide, rfl⟩ (Nat.le_of_ble_eq_true rfl) lVX13_277 rfl (by decide +kernel : decode cX13_why 11 = .ok (.invokevirtual 277, 3)) ?_
  rcases rv_if_e h with ⟨g14_, h⟩ | ⟨g14_, h⟩
  · refine re_if_eq_t (pc := 14) 34 (by decide +kernel : decode cX13_why 14 = .ok (.ifCond .eq 20, 3)) (by decide) g14_ ?_
    refine re_iconst (pc := 34) (-1 : Int32) (by decide +kernel : decode cX13_why 34 = .ok (.iconst (-1), 1)) (by decide) ?_
    cases h
    exact re_iret (fun ty hty => by cases hty; rfl) (by decide +kernel : decode cX13_why 35 = .ok (.ireturn, 1))
  · refine re_if_eq_f (pc := 14) 34 (by decide +kernel : decode cX13_why 14 = .ok (.ifCond .eq 20, 3)) (by decide) g14_ ?_
    refine re_aloadn (pc := 17) 0 (by decide +kernel : decode cX13_why 17 = .ok (.aload_n 0, 1)) rfl ?_
    refine re_iloadn (pc := 18) 2 (by decide +kernel : decode cX13_why 18 = .ok (.iload_n 2, 1)) rfl ?_
    obtain ⟨u15_, g16_, h⟩ := rv_b_e h
    obtain ⟨x18_, g19_, h⟩ := rv_b_e h
    have m17_ := metX13_isWho n S6_ a0 x2 _ g19_
    refine re_cV (pc := 19) [.int x2] m17_ (rv_okl.k ⟨rfl, rfl⟩) (rv_up.rf _ _) (by decide) (rv_ck_e g16_) ⟨by decide, rfl⟩ (Nat.le_of_ble_eq_true rfl) lVX13_265 rfl (by decide +kernel : decode cX13_why 19 = .ok (.invokevirtual 265, 3)) ?_
    rcases rv_if_e h with ⟨g20_, h⟩ | ⟨g20_, h⟩
    · refine re_if_eq_t (pc := 22) 34 (by decide +kernel : decode cX13_why 22 = .ok (.ifCond .eq 12, 3)) (by decide) g20_ ?_
      refine re_iconst (pc := 34) (-1 : Int32) (by decide +kernel : decode cX13_why 34 = .ok (.iconst (-1), 1)) (by decide) ?_
      cases h
      exact re_iret (fun ty hty => by cases hty; rfl) (by decide +kernel : decode cX13_why 35 = .ok (.ireturn, 1))
    · refine re_if_eq_f (pc := 22) 34 (by decide +kernel : decode cX13_why 22 = .ok (.ifCond .eq 12, 3)) (by decide) g20_ ?_
      refine re_aloadn (pc := 25) 0 (by decide +kernel : decode cX13_why 25 = .ok (.aload_n 0, 1)) rfl ?_
      refine re_iloadn (pc := 26) 1 (by decide +kernel : decode cX13_why 26 = .ok (.iload_n 1, 1)) rfl ?_
      refine re_iloadn (pc := 27) 2 (by decide +kernel : decode cX13_why 27 = .ok (.iload_n 2, 1)) rfl ?_
      obtain ⟨u21_, g22_, h⟩ := rv_b_e h
      obtain ⟨x24_, S25_, g26_, h⟩ := rv_bp_e h
      have m23_ := metX13_whyNot_ n S6_ a0 x1 x2 _ _ g26_
      have z27_ : rv_same S6_ S25_ := m23_.sh rfl
      refine re_cV (pc := 28) [.int x1, .int x2] m23_ (rv_okl.k z27_) (rv_up.sh z27_) (by decide) (rv_ck_e g22_) ⟨by decide, rfl⟩ (Nat.le_of_ble_eq_true rfl) lVX13_307 rfl (by decide +kernel : decode cX13_why 28 = .ok (.invokevirtual 307, 3)) ?_
      refine re_goto (pc := 31) 35 (by decide +kernel : decode cX13_why 31 = .ok (.goto 4, 3)) (by decide) ?_
      cases h
      exact re_iret (fun ty hty => by cases hty; rfl) (by decide +kernel : decode cX13_why 35 = .ok (.ireturn, 1))
theorem metX13_why (n : Nat) (S : rvS) (a0 : Nat) (x1 : Int32) (x2 : Int32) (r : Int32) (S' : rvS) (h : fnX13_why n S a0 x1 x2 = some (r, S')) : rv_Met yX13_why mX13_why 4 [.ref a0, .int x1, .int x2] S (some (.int r)) S' := rv_Met.of ⟨by decide +kernel, rfl, (fun z => by first | rfl | cases z), rfl⟩ (Nat.le_of_ble_eq_true rfl) rfl (eX13_why_in n S a0 x1 x2 r S' h)
noncomputable def fnX13_pay (n : Nat) (S : rvS) (a0 : Nat) (x1 : Int32) (x2 : Int32) : Option (Int32 × rvS) :=
  (rv_pI S 11 a0 0 (0 : Int32)).bind fun S1_ =>
  (rv_ck S1_ 11 a0).bind fun u3_ =>
  (fnX13_lay n S1_ a0).bind fun S6_ =>
  (rv_ck S6_ 11 a0).bind fun u9_ =>
  (fnX13_isCoin n S6_ a0 x1).bind fun x12_ =>
  if x12_ = 0 then (
    some ((-1 : Int32), S6_))
  else (
    (rv_ck S6_ 11 a0).bind fun u15_ =>
    (fnX13_isWho n S6_ a0 x2).bind fun x18_ =>
    if x18_ = 0 then (
      some ((-1 : Int32), S6_))
    else (
      (rv_ck S6_ 11 a0).bind fun u21_ =>
      rv_bp (fnX13_whyNot_ n S6_ a0 x1 x2) fun x24_ S25_ =>
      if x24_ = 0 then (
        (rv_ck S25_ 11 a0).bind fun u29_ =>
        (fnX13_goes n S25_ a0 x1 x2).bind fun S32_ =>
        some (x24_, S32_))
      else (
        some (x24_, S25_))))
set_option maxRecDepth 20000 in
set_option maxHeartbeats 4000000 in
theorem eX13_pay_in (n : Nat) (S : rvS) (a0 : Nat) (x1 : Int32) (x2 : Int32) (r : Int32) (S' : rvS) (h : fnX13_pay n S a0 x1 x2 = some (r, S')) : rv_Ev mX13_pay 4 0 [(0, .ref a0), (1, .int x1), (2, .int x2)] [] S (some (.int r)) S' := by
  unfold fnX13_pay at h
  refine re_aloadn (pc := 0) 0 (by decide +kernel : decode cX13_pay 0 = .ok (.aload_n 0, 1)) rfl ?_
  refine re_iconst (pc := 1) (0 : Int32) (by decide +kernel : decode cX13_pay 1 = .ok (.iconst 0, 1)) (by decide) ?_
  obtain ⟨S1_, g2_, h⟩ := rv_b_e h
  refine re_pI (pc := 2) g2_ lfX13_99 rfl rfl rfl rfl (by decide +kernel : decode cX13_pay 2 = .ok (.putfield 99, 3)) ?_
  refine re_aloadn (pc := 5) 0 (by decide +kernel : decode cX13_pay 5 = .ok (.aload_n 0, 1)) rfl ?_
  obtain ⟨u3_, g4_, h⟩ := rv_b_e h
  obtain ⟨S6_, g7_, h⟩ := rv_b_e h
  have m5_ := metX13_lay n S1_ a0 _ g7_
  have z8_ : rv_same S1_ S6_ := m5_.sh rfl
  refine re_cV (pc := 6) [] m5_ (rv_okl.k z8_) (rv_up.sh z8_) (by decide) (rv_ck_e g4_) ⟨by decide, rfl⟩ (Nat.le_of_ble_eq_true rfl) lVX13_187 rfl (by decide +kernel : decode cX13_pay 6 = .ok (.invokevirtual 187, 3)) ?_
  refine re_aloadn (pc := 9) 0 (by decide +kernel : decode cX13_pay 9 = .ok (.aload_n 0, 1)) rfl ?_
  refine re_iloadn (pc := 10) 1 (by decide +kernel : decode cX13_pay 10 = .ok (.iload_n 1, 1)) rfl ?_
  obtain ⟨u9_, g10_, h⟩ := rv_b_e h
  obtain ⟨x12_, g13_, h⟩ := rv_b_e h
  have m11_ := metX13_isCoin n S6_ a0 x1 _ g13_
  refine re_cV (pc := 11) [.int x1] m11_ (rv_okl.k ⟨rfl, rfl⟩) (rv_up.rf _ _) (by decide) (rv_ck_e g10_) ⟨by decide, rfl⟩ (Nat.le_of_ble_eq_true rfl) lVX13_277 rfl (by decide +kernel : decode cX13_pay 11 = .ok (.invokevirtual 277, 3)) ?_
  rcases rv_if_e h with ⟨g14_, h⟩ | ⟨g14_, h⟩
  · refine re_if_eq_t (pc := 14) 25 (by decide +kernel : decode cX13_pay 14 = .ok (.ifCond .eq 11, 3)) (by decide) g14_ ?_
    refine re_iconst (pc := 25) (-1 : Int32) (by decide +kernel : decode cX13_pay 25 = .ok (.iconst (-1), 1)) (by decide) ?_
    cases h
    exact re_iret (fun ty hty => by cases hty; rfl) (by decide +kernel : decode cX13_pay 26 = .ok (.ireturn, 1))
  · refine re_if_eq_f (pc := 14) 25 (by decide +kernel : decode cX13_pay 14 = .ok (.ifCond .eq 11, 3)) (by decide) g14_ ?_
    refine re_aloadn (pc := 17) 0 (by decide +kernel : decode cX13_pay 17 = .ok (.aload_n 0, 1)) rfl ?_
    refine re_iloadn (pc := 18) 2 (by decide +kernel : decode cX13_pay 18 = .ok (.iload_n 2, 1)) rfl ?_
    obtain ⟨u15_, g16_, h⟩ := rv_b_e h
    obtain ⟨x18_, g19_, h⟩ := rv_b_e h
    have m17_ := metX13_isWho n S6_ a0 x2 _ g19_
    refine re_cV (pc := 19) [.int x2] m17_ (rv_okl.k ⟨rfl, rfl⟩) (rv_up.rf _ _) (by decide) (rv_ck_e g16_) ⟨by decide, rfl⟩ (Nat.le_of_ble_eq_true rfl) lVX13_265 rfl (by decide +kernel : decode cX13_pay 19 = .ok (.invokevirtual 265, 3)) ?_
    rcases rv_if_e h with ⟨g20_, h⟩ | ⟨g20_, h⟩
    · refine re_if_ne_f (pc := 22) 27 (by decide +kernel : decode cX13_pay 22 = .ok (.ifCond .ne 5, 3)) (by decide) g20_ ?_
      refine re_iconst (pc := 25) (-1 : Int32) (by decide +kernel : decode cX13_pay 25 = .ok (.iconst (-1), 1)) (by decide) ?_
      cases h
      exact re_iret (fun ty hty => by cases hty; rfl) (by decide +kernel : decode cX13_pay 26 = .ok (.ireturn, 1))
    · refine re_if_ne_t (pc := 22) 27 (by decide +kernel : decode cX13_pay 22 = .ok (.ifCond .ne 5, 3)) (by decide) g20_ ?_
      refine re_aloadn (pc := 27) 0 (by decide +kernel : decode cX13_pay 27 = .ok (.aload_n 0, 1)) rfl ?_
      refine re_iloadn (pc := 28) 1 (by decide +kernel : decode cX13_pay 28 = .ok (.iload_n 1, 1)) rfl ?_
      refine re_iloadn (pc := 29) 2 (by decide +kernel : decode cX13_pay 29 = .ok (.iload_n 2, 1)) rfl ?_
      obtain ⟨u21_, g22_, h⟩ := rv_b_e h
      obtain ⟨x24_, S25_, g26_, h⟩ := rv_bp_e h
      have m23_ := metX13_whyNot_ n S6_ a0 x1 x2 _ _ g26_
      have z27_ : rv_same S6_ S25_ := m23_.sh rfl
      refine re_cV (pc := 30) [.int x1, .int x2] m23_ (rv_okl.k z27_) (rv_up.sh z27_) (by decide) (rv_ck_e g22_) ⟨by decide, rfl⟩ (Nat.le_of_ble_eq_true rfl) lVX13_307 rfl (by decide +kernel : decode cX13_pay 30 = .ok (.invokevirtual 307, 3)) ?_
      refine re_istoren (pc := 33) (lv1 := [(3, .int x24_), (0, .ref a0), (1, .int x1), (2, .int x2)]) (by decide +kernel : decode cX13_pay 33 = .ok (.istore_n 3, 1)) rfl (by decide) rfl ?_
      refine re_iloadn (pc := 34) 0 (by decide +kernel : decode cX13_pay 34 = .ok (.iload_n 3, 1)) rfl ?_
      rcases rv_if_e h with ⟨g28_, h⟩ | ⟨g28_, h⟩
      · refine re_if_ne_f (pc := 35) 44 (by decide +kernel : decode cX13_pay 35 = .ok (.ifCond .ne 9, 3)) (by decide) g28_ ?_
        refine re_aloadn (pc := 38) 1 (by decide +kernel : decode cX13_pay 38 = .ok (.aload_n 0, 1)) rfl ?_
        refine re_iloadn (pc := 39) 2 (by decide +kernel : decode cX13_pay 39 = .ok (.iload_n 1, 1)) rfl ?_
        refine re_iloadn (pc := 40) 3 (by decide +kernel : decode cX13_pay 40 = .ok (.iload_n 2, 1)) rfl ?_
        obtain ⟨u29_, g30_, h⟩ := rv_b_e h
        obtain ⟨S32_, g33_, h⟩ := rv_b_e h
        have m31_ := metX13_goes n S25_ a0 x1 x2 _ g33_
        have z34_ : rv_same S25_ S32_ := m31_.sh rfl
        refine re_cV (pc := 41) [.int x1, .int x2] m31_ (rv_okl.k z34_) (rv_up.sh z34_) (by decide) (rv_ck_e g30_) ⟨by decide, rfl⟩ (Nat.le_of_ble_eq_true rfl) lVX13_309 rfl (by decide +kernel : decode cX13_pay 41 = .ok (.invokevirtual 309, 3)) ?_
        refine re_iloadn (pc := 44) 0 (by decide +kernel : decode cX13_pay 44 = .ok (.iload_n 3, 1)) rfl ?_
        cases h
        exact re_iret (fun ty hty => by cases hty; rfl) (by decide +kernel : decode cX13_pay 45 = .ok (.ireturn, 1))
      · refine re_if_ne_t (pc := 35) 44 (by decide +kernel : decode cX13_pay 35 = .ok (.ifCond .ne 9, 3)) (by decide) g28_ ?_
        refine re_iloadn (pc := 44) 0 (by decide +kernel : decode cX13_pay 44 = .ok (.iload_n 3, 1)) rfl ?_
        cases h
        exact re_iret (fun ty hty => by cases hty; rfl) (by decide +kernel : decode cX13_pay 45 = .ok (.ireturn, 1))
theorem metX13_pay (n : Nat) (S : rvS) (a0 : Nat) (x1 : Int32) (x2 : Int32) (r : Int32) (S' : rvS) (h : fnX13_pay n S a0 x1 x2 = some (r, S')) : rv_Met yX13_pay mX13_pay 4 [.ref a0, .int x1, .int x2] S (some (.int r)) S' := rv_Met.of ⟨by decide +kernel, rfl, (fun z => by first | rfl | cases z), rfl⟩ (Nat.le_of_ble_eq_true rfl) rfl (eX13_pay_in n S a0 x1 x2 r S' h)
noncomputable def fnX13_whom (n : Nat) (S : rvS) (a0 : Nat) (x1 : Int32) : Option (Int32 × rvS) :=
  (rv_pI S 11 a0 0 (0 : Int32)).bind fun S1_ =>
  (rv_ck S1_ 11 a0).bind fun u3_ =>
  (fnX13_lay n S1_ a0).bind fun S6_ =>
  (rv_ck S6_ 11 a0).bind fun u9_ =>
  (fnX13_isCoin n S6_ a0 x1).bind fun x12_ =>
  if x12_ = 0 then (
    some ((-1 : Int32), S6_))
  else (
    (rv_ck S6_ 11 a0).bind fun u15_ =>
    rv_bp (fnX13_whomOf n S6_ a0 x1) fun x18_ S19_ =>
    some (x18_, S19_))
set_option maxRecDepth 20000 in
set_option maxHeartbeats 4000000 in
theorem eX13_whom_in (n : Nat) (S : rvS) (a0 : Nat) (x1 : Int32) (r : Int32) (S' : rvS) (h : fnX13_whom n S a0 x1 = some (r, S')) : rv_Ev mX13_whom 5 0 [(0, .ref a0), (1, .int x1)] [] S (some (.int r)) S' := by
  unfold fnX13_whom at h
  refine re_aloadn (pc := 0) 0 (by decide +kernel : decode cX13_whom 0 = .ok (.aload_n 0, 1)) rfl ?_
  refine re_iconst (pc := 1) (0 : Int32) (by decide +kernel : decode cX13_whom 1 = .ok (.iconst 0, 1)) (by decide) ?_
  obtain ⟨S1_, g2_, h⟩ := rv_b_e h
  refine re_pI (pc := 2) g2_ lfX13_99 rfl rfl rfl rfl (by decide +kernel : decode cX13_whom 2 = .ok (.putfield 99, 3)) ?_
  refine re_aloadn (pc := 5) 0 (by decide +kernel : decode cX13_whom 5 = .ok (.aload_n 0, 1)) rfl ?_
  obtain ⟨u3_, g4_, h⟩ := rv_b_e h
  obtain ⟨S6_, g7_, h⟩ := rv_b_e h
  have m5_ := metX13_lay n S1_ a0 _ g7_
  have z8_ : rv_same S1_ S6_ := m5_.sh rfl
  refine re_cV (pc := 6) [] m5_ (rv_okl.k z8_) (rv_up.sh z8_) (by decide) (rv_ck_e g4_) ⟨by decide, rfl⟩ (Nat.le_of_ble_eq_true rfl) lVX13_187 rfl (by decide +kernel : decode cX13_whom 6 = .ok (.invokevirtual 187, 3)) ?_
  refine re_aloadn (pc := 9) 0 (by decide +kernel : decode cX13_whom 9 = .ok (.aload_n 0, 1)) rfl ?_
  refine re_iloadn (pc := 10) 1 (by decide +kernel : decode cX13_whom 10 = .ok (.iload_n 1, 1)) rfl ?_
  obtain ⟨u9_, g10_, h⟩ := rv_b_e h
  obtain ⟨x12_, g13_, h⟩ := rv_b_e h
  have m11_ := metX13_isCoin n S6_ a0 x1 _ g13_
  refine re_cV (pc := 11) [.int x1] m11_ (rv_okl.k ⟨rfl, rfl⟩) (rv_up.rf _ _) (by decide) (rv_ck_e g10_) ⟨by decide, rfl⟩ (Nat.le_of_ble_eq_true rfl) lVX13_277 rfl (by decide +kernel : decode cX13_whom 11 = .ok (.invokevirtual 277, 3)) ?_
  rcases rv_if_e h with ⟨g14_, h⟩ | ⟨g14_, h⟩
  · refine re_if_eq_t (pc := 14) 25 (by decide +kernel : decode cX13_whom 14 = .ok (.ifCond .eq 11, 3)) (by decide) g14_ ?_
    refine re_iconst (pc := 25) (-1 : Int32) (by decide +kernel : decode cX13_whom 25 = .ok (.iconst (-1), 1)) (by decide) ?_
    cases h
    exact re_iret (fun ty hty => by cases hty; rfl) (by decide +kernel : decode cX13_whom 26 = .ok (.ireturn, 1))
  · refine re_if_eq_f (pc := 14) 25 (by decide +kernel : decode cX13_whom 14 = .ok (.ifCond .eq 11, 3)) (by decide) g14_ ?_
    refine re_aloadn (pc := 17) 0 (by decide +kernel : decode cX13_whom 17 = .ok (.aload_n 0, 1)) rfl ?_
    refine re_iloadn (pc := 18) 1 (by decide +kernel : decode cX13_whom 18 = .ok (.iload_n 1, 1)) rfl ?_
    obtain ⟨u15_, g16_, h⟩ := rv_b_e h
    obtain ⟨x18_, S19_, g20_, h⟩ := rv_bp_e h
    have m17_ := metX13_whomOf n S6_ a0 x1 _ _ g20_
    have z21_ : rv_same S6_ S19_ := m17_.sh rfl
    refine re_cV (pc := 19) [.int x1] m17_ (rv_okl.k z21_) (rv_up.sh z21_) (by decide) (rv_ck_e g16_) ⟨by decide, rfl⟩ (Nat.le_of_ble_eq_true rfl) lVX13_280 rfl (by decide +kernel : decode cX13_whom 19 = .ok (.invokevirtual 280, 3)) ?_
    refine re_goto (pc := 22) 26 (by decide +kernel : decode cX13_whom 22 = .ok (.goto 4, 3)) (by decide) ?_
    cases h
    exact re_iret (fun ty hty => by cases hty; rfl) (by decide +kernel : decode cX13_whom 26 = .ok (.ireturn, 1))
theorem metX13_whom (n : Nat) (S : rvS) (a0 : Nat) (x1 : Int32) (r : Int32) (S' : rvS) (h : fnX13_whom n S a0 x1 = some (r, S')) : rv_Met yX13_whom mX13_whom 5 [.ref a0, .int x1] S (some (.int r)) S' := rv_Met.of ⟨by decide +kernel, rfl, (fun z => by first | rfl | cases z), rfl⟩ (Nat.le_of_ble_eq_true rfl) rfl (eX13_whom_in n S a0 x1 r S' h)
noncomputable def fnX13_isFor (n : Nat) (S : rvS) (a0 : Nat) (x1 : Int32) (x2 : Int32) (x3 : Int32) : Option (Int32 × rvS) :=
  (rv_ck S 11 a0).bind fun u1_ =>
  (fnX13_ofCoin n S a0 x1 (1 : Int32)).bind fun x4_ =>
  if x4_ = x2 then (
    (rv_ck S 11 a0).bind fun u7_ =>
    rv_bp (fnX13_whyNot_ n S a0 x1 x3) fun x10_ S11_ =>
    if x10_ = 0 then (
      some ((1 : Int32), S11_))
    else (
      some ((0 : Int32), S11_)))
  else (
    some ((0 : Int32), S))
set_option maxRecDepth 20000 in
set_option maxHeartbeats 4000000 in
theorem eX13_isFor_in (n : Nat) (S : rvS) (a0 : Nat) (x1 : Int32) (x2 : Int32) (x3 : Int32) (r : Int32) (S' : rvS) (h : fnX13_isFor n S a0 x1 x2 x3 = some (r, S')) : rv_Ev mX13_isFor 4 0 [(0, .ref a0), (1, .int x1), (2, .int x2), (3, .int x3)] [] S (some (.int r)) S' := by
  unfold fnX13_isFor at h
  refine re_aloadn (pc := 0) 0 (by decide +kernel : decode cX13_isFor 0 = .ok (.aload_n 0, 1)) rfl ?_
  refine re_iloadn (pc := 1) 1 (by decide +kernel : decode cX13_isFor 1 = .ok (.iload_n 1, 1)) rfl ?_
  refine re_iconst (pc := 2) (1 : Int32) (by decide +kernel : decode cX13_isFor 2 = .ok (.iconst 1, 1)) (by decide) ?_
  obtain ⟨u1_, g2_, h⟩ := rv_b_e h
  obtain ⟨x4_, g5_, h⟩ := rv_b_e h
  have m3_ := metX13_ofCoin n S a0 x1 (1 : Int32) _ g5_
  refine re_cV (pc := 3) [.int x1, .int (1 : Int32)] m3_ (rv_okl.k ⟨rfl, rfl⟩) (rv_up.rf _ _) (by decide) (rv_ck_e g2_) ⟨by decide, rfl⟩ (Nat.le_of_ble_eq_true rfl) lVX13_271 rfl (by decide +kernel : decode cX13_isFor 3 = .ok (.invokevirtual 271, 3)) ?_
  refine re_iloadn (pc := 6) 2 (by decide +kernel : decode cX13_isFor 6 = .ok (.iload_n 2, 1)) rfl ?_
  rcases rv_if_e h with ⟨g6_, h⟩ | ⟨g6_, h⟩
  · refine re_icmp_ne_f (pc := 7) 23 (by decide +kernel : decode cX13_isFor 7 = .ok (.if_icmp .ne 16, 3)) (by decide) g6_ ?_
    refine re_aloadn (pc := 10) 0 (by decide +kernel : decode cX13_isFor 10 = .ok (.aload_n 0, 1)) rfl ?_
    refine re_iloadn (pc := 11) 1 (by decide +kernel : decode cX13_isFor 11 = .ok (.iload_n 1, 1)) rfl ?_
    refine re_iloadn (pc := 12) 3 (by decide +kernel : decode cX13_isFor 12 = .ok (.iload_n 3, 1)) rfl ?_
    obtain ⟨u7_, g8_, h⟩ := rv_b_e h
    obtain ⟨x10_, S11_, g12_, h⟩ := rv_bp_e h
    have m9_ := metX13_whyNot_ n S a0 x1 x3 _ _ g12_
    have z13_ : rv_same S S11_ := m9_.sh rfl
    refine re_cV (pc := 13) [.int x1, .int x3] m9_ (rv_okl.k z13_) (rv_up.sh z13_) (by decide) (rv_ck_e g8_) ⟨by decide, rfl⟩ (Nat.le_of_ble_eq_true rfl) lVX13_307 rfl (by decide +kernel : decode cX13_isFor 13 = .ok (.invokevirtual 307, 3)) ?_
    rcases rv_if_e h with ⟨g14_, h⟩ | ⟨g14_, h⟩
    · refine re_if_ne_f (pc := 16) 23 (by decide +kernel : decode cX13_isFor 16 = .ok (.ifCond .ne 7, 3)) (by decide) g14_ ?_
      refine re_iconst (pc := 19) (1 : Int32) (by decide +kernel : decode cX13_isFor 19 = .ok (.iconst 1, 1)) (by decide) ?_
      refine re_goto (pc := 20) 24 (by decide +kernel : decode cX13_isFor 20 = .ok (.goto 4, 3)) (by decide) ?_
      cases h
      exact re_iret (fun ty hty => by cases hty; rfl) (by decide +kernel : decode cX13_isFor 24 = .ok (.ireturn, 1))
    · refine re_if_ne_t (pc := 16) 23 (by decide +kernel : decode cX13_isFor 16 = .ok (.ifCond .ne 7, 3)) (by decide) g14_ ?_
      refine re_iconst (pc := 23) (0 : Int32) (by decide +kernel : decode cX13_isFor 23 = .ok (.iconst 0, 1)) (by decide) ?_
      cases h
      exact re_iret (fun ty hty => by cases hty; rfl) (by decide +kernel : decode cX13_isFor 24 = .ok (.ireturn, 1))
  · refine re_icmp_ne_t (pc := 7) 23 (by decide +kernel : decode cX13_isFor 7 = .ok (.if_icmp .ne 16, 3)) (by decide) g6_ ?_
    refine re_iconst (pc := 23) (0 : Int32) (by decide +kernel : decode cX13_isFor 23 = .ok (.iconst 0, 1)) (by decide) ?_
    cases h
    exact re_iret (fun ty hty => by cases hty; rfl) (by decide +kernel : decode cX13_isFor 24 = .ok (.ireturn, 1))
theorem metX13_isFor (n : Nat) (S : rvS) (a0 : Nat) (x1 : Int32) (x2 : Int32) (x3 : Int32) (r : Int32) (S' : rvS) (h : fnX13_isFor n S a0 x1 x2 x3 = some (r, S')) : rv_Met yX13_isFor mX13_isFor 4 [.ref a0, .int x1, .int x2, .int x3] S (some (.int r)) S' := rv_Met.of ⟨by decide +kernel, rfl, (fun z => by first | rfl | cases z), rfl⟩ (Nat.le_of_ble_eq_true rfl) rfl (eX13_isFor_in n S a0 x1 x2 x3 r S' h)
noncomputable def cX13_exactOf_167 (n : Nat) (K53 : Nat → Int32 → Int32 → Int32 → Int32 → Int32 → rvS → Option (Int32 × rvS)) (K87 : Nat → Int32 → Int32 → Int32 → Int32 → Int32 → Int32 → Int32 → rvS → Option (Int32 × rvS)) (S : rvS) (a0 : Nat) (x1 : Int32) (x2 : Int32) (x3 : Int32) (x4 : Int32) (x5 : Int32) (x6 : Int32) (x7 : Int32) (x8 : Int32) : Option (Int32 × rvS) :=
  (rv_gR S 11 a0 25).bind fun a1_ =>
  (rv_uI S a1_ (((1000 : Int32) * x5) + x7) x8).bind fun S3_ =>
  rv_lt (x7 + (1)) fun x5_ =>
  K87 a0 x1 x2 x3 x4 x5 x6 x5_ S3_
set_option maxRecDepth 20000 in
set_option maxHeartbeats 4000000 in
theorem eX13_exactOf_167 (n : Nat) (K53 : Nat → Int32 → Int32 → Int32 → Int32 → Int32 → rvS → Option (Int32 × rvS)) (K87 : Nat → Int32 → Int32 → Int32 → Int32 → Int32 → Int32 → Int32 → rvS → Option (Int32 × rvS)) (hK53 : ∀ (a0 : Nat) (x1 : Int32) (x2 : Int32) (x3 : Int32) (x4 : Int32) (x5 : Int32) (S : rvS) (r : Int32) (S' : rvS), K53 a0 x1 x2 x3 x4 x5 S = some (r, S') → rv_Ev mX13_exactOf 5 53 [(0, .ref a0), (1, .int x1), (2, .int x2), (3, .int x3), (4, .int x4), (5, .int x5)] [] S (some (.int r)) S') (hK87 : ∀ (a0 : Nat) (x1 : Int32) (x2 : Int32) (x3 : Int32) (x4 : Int32) (x5 : Int32) (x6 : Int32) (x7 : Int32) (S : rvS) (r : Int32) (S' : rvS), K87 a0 x1 x2 x3 x4 x5 x6 x7 S = some (r, S') → rv_Ev mX13_exactOf 5 87 [(0, .ref a0), (1, .int x1), (2, .int x2), (3, .int x3), (4, .int x4), (5, .int x5), (6, .int x6), (7, .int x7)] [] S (some (.int r)) S') (S : rvS) (a0 : Nat) (x1 : Int32) (x2 : Int32) (x3 : Int32) (x4 : Int32) (x5 : Int32) (x6 : Int32) (x7 : Int32) (x8 : Int32) (r : Int32) (S' : rvS) (h : cX13_exactOf_167 n K53 K87 S a0 x1 x2 x3 x4 x5 x6 x7 x8 = some (r, S')) : rv_Ev mX13_exactOf 5 167 [(0, .ref a0), (1, .int x1), (2, .int x2), (3, .int x3), (4, .int x4), (5, .int x5), (6, .int x6), (7, .int x7), (8, .int x8)] [] S (some (.int r)) S' := by
  unfold cX13_exactOf_167 at h
  refine re_aloadn (pc := 167) 0 (by decide +kernel : decode cX13_exactOf 167 = .ok (.aload_n 0, 1)) rfl ?_
  obtain ⟨a1_, g2_, h⟩ := rv_b_e h
  refine re_gR (pc := 168) g2_ lfX13_43 rfl (by decide +kernel : decode cX13_exactOf 168 = .ok (.getfield 43, 3)) ?_
  refine re_sipush (pc := 171) (1000 : Int32) (by decide +kernel : decode cX13_exactOf 171 = .ok (.sipush 1000, 3)) (by decide) ?_
  refine re_iload (pc := 174) 5 (by decide +kernel : decode cX13_exactOf 174 = .ok (.iload 5, 2)) rfl ?_
  refine re_imul (pc := 176) (by decide +kernel : decode cX13_exactOf 176 = .ok (.imul, 1)) ?_
  refine re_iload (pc := 177) 7 (by decide +kernel : decode cX13_exactOf 177 = .ok (.iload 7, 2)) rfl ?_
  refine re_iadd (pc := 179) (by decide +kernel : decode cX13_exactOf 179 = .ok (.iadd, 1)) ?_
  refine re_iload (pc := 180) 8 (by decide +kernel : decode cX13_exactOf 180 = .ok (.iload 8, 2)) rfl ?_
  obtain ⟨S3_, g4_, h⟩ := rv_b_e h
  refine re_uI (pc := 182) g4_ (by decide +kernel : decode cX13_exactOf 182 = .ok (.iastore, 1)) ?_
  obtain ⟨x5_, g6_, h⟩ := rv_lt_e h
  refine re_iinc (pc := 183) 7 x5_ (lv1 := [(7, .int x5_), (0, .ref a0), (1, .int x1), (2, .int x2), (3, .int x3), (4, .int x4), (5, .int x5), (6, .int x6), (8, .int x8)]) (by decide +kernel : decode cX13_exactOf 183 = .ok (.iinc 7 1, 3)) rfl g6_ (by decide) rfl ?_
  refine re_goto (pc := 186) 87 (by decide +kernel : decode cX13_exactOf 186 = .ok (.goto (-99), 3)) (by decide) ?_
  refine re_sub [1, 2, 3, 4, 5, 6, 7, 0] (lv1 := [(0, .ref a0), (1, .int x1), (2, .int x2), (3, .int x3), (4, .int x4), (5, .int x5), (6, .int x6), (7, .int x5_)]) rfl ?_
  exact hK87 a0 x1 x2 x3 x4 x5 x6 x5_ S3_ _ _ h
noncomputable def cX13_exactOf_87 (n : Nat) (K53 : Nat → Int32 → Int32 → Int32 → Int32 → Int32 → rvS → Option (Int32 × rvS)) : Nat → rvS → Nat → Int32 → Int32 → Int32 → Int32 → Int32 → Int32 → Int32 → Option (Int32 × rvS)
  | 0, _, _, _, _, _, _, _, _, _ => none
  | k + 1, S, a0, x1, x2, x3, x4, x5, x6, x7 =>
    if x3 < x7 then (
      rv_lt (x5 + (-1)) fun x2_ =>
      K53 a0 x1 x2 x3 x4 x2_ S)
    else (
      (rv_gR S 11 a0 25).bind fun a4_ =>
      (rv_aI S 0 a4_ (((1000 : Int32) * (x5 + (1 : Int32))) + x7)).bind fun x6_ =>
      if x7 < x6 then (
        cX13_exactOf_167 n K53 (fun a0 x1 x2 x3 x4 x5 x6 x7 S => cX13_exactOf_87 n K53 k S a0 x1 x2 x3 x4 x5 x6 x7) S a0 x1 x2 x3 x4 x5 x6 x7 x6_)
      else (
        (rv_gR S 11 a0 25).bind fun a9_ =>
        (rv_aI S 0 a9_ ((((1000 : Int32) * (x5 + (1 : Int32))) + x7) - x6)).bind fun x11_ =>
        if x6_ ≤ (x11_ + (1 : Int32)) then (
          cX13_exactOf_167 n K53 (fun a0 x1 x2 x3 x4 x5 x6 x7 S => cX13_exactOf_87 n K53 k S a0 x1 x2 x3 x4 x5 x6 x7) S a0 x1 x2 x3 x4 x5 x6 x7 x6_)
        else (
          (rv_gR S 11 a0 25).bind fun a14_ =>
          (rv_aI S 0 a14_ ((((1000 : Int32) * (x5 + (1 : Int32))) + x7) - x6)).bind fun x16_ =>
          rv_lt (x16_ + (1 : Int32)) fun x18_ =>
          cX13_exactOf_167 n K53 (fun a0 x1 x2 x3 x4 x5 x6 x7 S => cX13_exactOf_87 n K53 k S a0 x1 x2 x3 x4 x5 x6 x7) S a0 x1 x2 x3 x4 x5 x6 x7 x18_)))
set_option maxRecDepth 20000 in
set_option maxHeartbeats 4000000 in
theorem eX13_exactOf_87 (n : Nat) (K53 : Nat → Int32 → Int32 → Int32 → Int32 → Int32 → rvS → Option (Int32 × rvS)) (hK53 : ∀ (a0 : Nat) (x1 : Int32) (x2 : Int32) (x3 : Int32) (x4 : Int32) (x5 : Int32) (S : rvS) (r : Int32) (S' : rvS), K53 a0 x1 x2 x3 x4 x5 S = some (r, S') → rv_Ev mX13_exactOf 5 53 [(0, .ref a0), (1, .int x1), (2, .int x2), (3, .int x3), (4, .int x4), (5, .int x5)] [] S (some (.int r)) S') : ∀ (k : Nat) (S : rvS) (a0 : Nat) (x1 : Int32) (x2 : Int32) (x3 : Int32) (x4 : Int32) (x5 : Int32) (x6 : Int32) (x7 : Int32) (r : Int32) (S' : rvS), cX13_exactOf_87 n K53 k S a0 x1 x2 x3 x4 x5 x6 x7 = some (r, S') → rv_Ev mX13_exactOf 5 87 [(0, .ref a0), (1, .int x1), (2, .int x2), (3, .int x3), (4, .int x4), (5, .int x5), (6, .int x6), (7, .int x7)] [] S (some (.int r)) S' := by
  intro k
  induction k with
  | zero => intro S a0 x1 x2 x3 x4 x5 x6 x7 r S' h; exact absurd h (by simp [cX13_exactOf_87])
  | succ k ih =>
    intro S a0 x1 x2 x3 x4 x5 x6 x7 r S' h
    unfold cX13_exactOf_87 at h
    refine re_iload (pc := 87) 7 (by decide +kernel : decode cX13_exactOf 87 = .ok (.iload 7, 2)) rfl ?_
    refine re_iloadn (pc := 89) 3 (by decide +kernel : decode cX13_exactOf 89 = .ok (.iload_n 3, 1)) rfl ?_
    rcases rv_if_e h with ⟨g1_, h⟩ | ⟨g1_, h⟩
    · refine re_icmp_gt_t (pc := 90) 189 (by decide +kernel : decode cX13_exactOf 90 = .ok (.if_icmp .gt 99, 3)) (by decide) g1_ ?_
      obtain ⟨x2_, g3_, h⟩ := rv_lt_e h
      refine re_iinc (pc := 189) 5 x2_ (lv1 := [(5, .int x2_), (0, .ref a0), (1, .int x1), (2, .int x2), (3, .int x3), (4, .int x4), (6, .int x6), (7, .int x7)]) (by decide +kernel : decode cX13_exactOf 189 = .ok (.iinc 5 (-1), 3)) rfl g3_ (by decide) rfl ?_
      refine re_goto (pc := 192) 53 (by decide +kernel : decode cX13_exactOf 192 = .ok (.goto (-139), 3)) (by decide) ?_
      refine re_sub [1, 2, 3, 4, 5, 0] (lv1 := [(0, .ref a0), (1, .int x1), (2, .int x2), (3, .int x3), (4, .int x4), (5, .int x2_)]) rfl ?_
      exact hK53 a0 x1 x2 x3 x4 x2_ S _ _ h
    · refine re_icmp_gt_f (pc := 90) 189 (by decide +kernel : decode cX13_exactOf 90 = .ok (.if_icmp .gt 99, 3)) (by decide) g1_ ?_
      refine re_aloadn (pc := 93) 0 (by decide +kernel : decode cX13_exactOf 93 = .ok (.aload_n 0, 1)) rfl ?_
      obtain ⟨a4_, g5_, h⟩ := rv_b_e h
      refine re_gR (pc := 94) g5_ lfX13_43 rfl (by decide +kernel : decode cX13_exactOf 94 = .ok (.getfield 43, 3)) ?_
      refine re_sipush (pc := 97) (1000 : Int32) (by decide +kernel : decode cX13_exactOf 97 = .ok (.sipush 1000, 3)) (by decide) ?_
      refine re_iload (pc := 100) 5 (by decide +kernel : decode cX13_exactOf 100 = .ok (.iload 5, 2)) rfl ?_
      refine re_iconst (pc := 102) (1 : Int32) (by decide +kernel : decode cX13_exactOf 102 = .ok (.iconst 1, 1)) (by decide) ?_
      refine re_iadd (pc := 103) (by decide +kernel : decode cX13_exactOf 103 = .ok (.iadd, 1)) ?_
      refine re_imul (pc := 104) (by decide +kernel : decode cX13_exactOf 104 = .ok (.imul, 1)) ?_
      refine re_iload (pc := 105) 7 (by decide +kernel : decode cX13_exactOf 105 = .ok (.iload 7, 2)) rfl ?_
      refine re_iadd (pc := 107) (by decide +kernel : decode cX13_exactOf 107 = .ok (.iadd, 1)) ?_
      obtain ⟨x6_, g7_, h⟩ := rv_b_e h
      refine re_aI (pc := 108) g7_ (by decide +kernel : decode cX13_exactOf 108 = .ok (.iaload, 1)) ?_
      refine re_istore (pc := 109) (lv1 := [(8, .int x6_), (0, .ref a0), (1, .int x1), (2, .int x2), (3, .int x3), (4, .int x4), (5, .int x5), (6, .int x6), (7, .int x7)]) (by decide +kernel : decode cX13_exactOf 109 = .ok (.istore 8, 2)) (by decide) rfl ?_
      refine re_iload (pc := 111) 7 (by decide +kernel : decode cX13_exactOf 111 = .ok (.iload 6, 2)) rfl ?_
      refine re_iload (pc := 113) 8 (by decide +kernel : decode cX13_exactOf 113 = .ok (.iload 7, 2)) rfl ?_
      rcases rv_if_e h with ⟨g8_, h⟩ | ⟨g8_, h⟩
      · refine re_icmp_gt_t (pc := 115) 167 (by decide +kernel : decode cX13_exactOf 115 = .ok (.if_icmp .gt 52, 3)) (by decide) g8_ ?_
        refine re_sub [1, 2, 3, 4, 5, 6, 7, 8, 0] (lv1 := [(0, .ref a0), (1, .int x1), (2, .int x2), (3, .int x3), (4, .int x4), (5, .int x5), (6, .int x6), (7, .int x7), (8, .int x6_)]) rfl ?_
        exact eX13_exactOf_167 n K53 (fun a0 x1 x2 x3 x4 x5 x6 x7 S => cX13_exactOf_87 n K53 k S a0 x1 x2 x3 x4 x5 x6 x7) hK53 (fun a0 x1 x2 x3 x4 x5 x6 x7 S _ _ h => ih S a0 x1 x2 x3 x4 x5 x6 x7 _ _ h) S a0 x1 x2 x3 x4 x5 x6 x7 x6_ _ _ h
      · refine re_icmp_gt_f (pc := 115) 167 (by decide +kernel : decode cX13_exactOf 115 = .ok (.if_icmp .gt 52, 3)) (by decide) g8_ ?_
        refine re_aloadn (pc := 118) 1 (by decide +kernel : decode cX13_exactOf 118 = .ok (.aload_n 0, 1)) rfl ?_
        obtain ⟨a9_, g10_, h⟩ := rv_b_e h
        refine re_gR (pc := 119) g10_ lfX13_43 rfl (by decide +kernel : decode cX13_exactOf 119 = .ok (.getfield 43, 3)) ?_
        refine re_sipush (pc := 122) (1000 : Int32) (by decide +kernel : decode cX13_exactOf 122 = .ok (.sipush 1000, 3)) (by decide) ?_
        refine re_iload (pc := 125) 6 (by decide +kernel : decode cX13_exactOf 125 = .ok (.iload 5, 2)) rfl ?_
        refine re_iconst (pc := 127) (1 : Int32) (by decide +kernel : decode cX13_exactOf 127 = .ok (.iconst 1, 1)) (by decide) ?_
        refine re_iadd (pc := 128) (by decide +kernel : decode cX13_exactOf 128 = .ok (.iadd, 1)) ?_
        refine re_imul (pc := 129) (by decide +kernel : decode cX13_exactOf 129 = .ok (.imul, 1)) ?_
        refine re_iload (pc := 130) 8 (by decide +kernel : decode cX13_exactOf 130 = .ok (.iload 7, 2)) rfl ?_
        refine re_iadd (pc := 132) (by decide +kernel : decode cX13_exactOf 132 = .ok (.iadd, 1)) ?_
        refine re_iload (pc := 133) 7 (by decide +kernel : decode cX13_exactOf 133 = .ok (.iload 6, 2)) rfl ?_
        refine re_isub (pc := 135) (by decide +kernel : decode cX13_exactOf 135 = .ok (.isub, 1)) ?_
        obtain ⟨x11_, g12_, h⟩ := rv_b_e h
        refine re_aI (pc := 136) g12_ (by decide +kernel : decode cX13_exactOf 136 = .ok (.iaload, 1)) ?_
        refine re_iconst (pc := 137) (1 : Int32) (by decide +kernel : decode cX13_exactOf 137 = .ok (.iconst 1, 1)) (by decide) ?_
        refine re_iadd (pc := 138) (by decide +kernel : decode cX13_exactOf 138 = .ok (.iadd, 1)) ?_
        refine re_iload (pc := 139) 0 (by decide +kernel : decode cX13_exactOf 139 = .ok (.iload 8, 2)) rfl ?_
        rcases rv_if_e h with ⟨g13_, h⟩ | ⟨g13_, h⟩
        · refine re_icmp_ge_t (pc := 141) 167 (by decide +kernel : decode cX13_exactOf 141 = .ok (.if_icmp .ge 26, 3)) (by decide) g13_ ?_
          refine re_sub [1, 2, 3, 4, 5, 6, 7, 8, 0] (lv1 := [(0, .ref a0), (1, .int x1), (2, .int x2), (3, .int x3), (4, .int x4), (5, .int x5), (6, .int x6), (7, .int x7), (8, .int x6_)]) rfl ?_
          exact eX13_exactOf_167 n K53 (fun a0 x1 x2 x3 x4 x5 x6 x7 S => cX13_exactOf_87 n K53 k S a0 x1 x2 x3 x4 x5 x6 x7) hK53 (fun a0 x1 x2 x3 x4 x5 x6 x7 S _ _ h => ih S a0 x1 x2 x3 x4 x5 x6 x7 _ _ h) S a0 x1 x2 x3 x4 x5 x6 x7 x6_ _ _ h
        · refine re_icmp_ge_f (pc := 141) 167 (by decide +kernel : decode cX13_exactOf 141 = .ok (.if_icmp .ge 26, 3)) (by decide) g13_ ?_
          refine re_aloadn (pc := 144) 1 (by decide +kernel : decode cX13_exactOf 144 = .ok (.aload_n 0, 1)) rfl ?_
          obtain ⟨a14_, g15_, h⟩ := rv_b_e h
          refine re_gR (pc := 145) g15_ lfX13_43 rfl (by decide +kernel : decode cX13_exactOf 145 = .ok (.getfield 43, 3)) ?_
          refine re_sipush (pc := 148) (1000 : Int32) (by decide +kernel : decode cX13_exactOf 148 = .ok (.sipush 1000, 3)) (by decide) ?_
          refine re_iload (pc := 151) 6 (by decide +kernel : decode cX13_exactOf 151 = .ok (.iload 5, 2)) rfl ?_
          refine re_iconst (pc := 153) (1 : Int32) (by decide +kernel : decode cX13_exactOf 153 = .ok (.iconst 1, 1)) (by decide) ?_
          refine re_iadd (pc := 154) (by decide +kernel : decode cX13_exactOf 154 = .ok (.iadd, 1)) ?_
          refine re_imul (pc := 155) (by decide +kernel : decode cX13_exactOf 155 = .ok (.imul, 1)) ?_
          refine re_iload (pc := 156) 8 (by decide +kernel : decode cX13_exactOf 156 = .ok (.iload 7, 2)) rfl ?_
          refine re_iadd (pc := 158) (by decide +kernel : decode cX13_exactOf 158 = .ok (.iadd, 1)) ?_
          refine re_iload (pc := 159) 7 (by decide +kernel : decode cX13_exactOf 159 = .ok (.iload 6, 2)) rfl ?_
          refine re_isub (pc := 161) (by decide +kernel : decode cX13_exactOf 161 = .ok (.isub, 1)) ?_
          obtain ⟨x16_, g17_, h⟩ := rv_b_e h
          refine re_aI (pc := 162) g17_ (by decide +kernel : decode cX13_exactOf 162 = .ok (.iaload, 1)) ?_
          refine re_iconst (pc := 163) (1 : Int32) (by decide +kernel : decode cX13_exactOf 163 = .ok (.iconst 1, 1)) (by decide) ?_
          refine re_iadd (pc := 164) (by decide +kernel : decode cX13_exactOf 164 = .ok (.iadd, 1)) ?_
          obtain ⟨x18_, g19_, h⟩ := rv_lt_e h
          refine re_nI (pc := 165) g19_ ?_
          refine re_istore (pc := 165) (lv1 := [(8, .int x18_), (0, .ref a0), (1, .int x1), (2, .int x2), (3, .int x3), (4, .int x4), (5, .int x5), (6, .int x6), (7, .int x7)]) (by decide +kernel : decode cX13_exactOf 165 = .ok (.istore 8, 2)) (by decide) rfl ?_
          refine re_sub [1, 2, 3, 4, 5, 6, 7, 8, 0] (lv1 := [(0, .ref a0), (1, .int x1), (2, .int x2), (3, .int x3), (4, .int x4), (5, .int x5), (6, .int x6), (7, .int x7), (8, .int x18_)]) rfl ?_
          exact eX13_exactOf_167 n K53 (fun a0 x1 x2 x3 x4 x5 x6 x7 S => cX13_exactOf_87 n K53 k S a0 x1 x2 x3 x4 x5 x6 x7) hK53 (fun a0 x1 x2 x3 x4 x5 x6 x7 S _ _ h => ih S a0 x1 x2 x3 x4 x5 x6 x7 _ _ h) S a0 x1 x2 x3 x4 x5 x6 x7 x18_ _ _ h
noncomputable def cX13_exactOf_316 (n : Nat) (K215 : Nat → Int32 → Int32 → Int32 → Int32 → Int32 → Int32 → rvS → Option (Int32 × rvS)) (S : rvS) (a0 : Nat) (x1 : Int32) (x2 : Int32) (x3 : Int32) (x4 : Int32) (x5 : Int32) (x6 : Int32) (x7 : Int32) (x8 : Int32) (t0 : Nat) (t1 : Int32) (t2 : Int32) : Option (Int32 × rvS) :=
  (rv_uI S t0 t1 t2).bind fun S1_ =>
  if x8 = 0 then (
    rv_lt (x6 + (1)) fun x4_ =>
    K215 a0 x1 x2 x3 x4 x5 x4_ S1_)
  else (
    rv_lt (x5 - x7) fun x6_ =>
    rv_lt (x6 + (1)) fun x8_ =>
    K215 a0 x1 x2 x3 x4 x6_ x8_ S1_)
set_option maxRecDepth 20000 in
set_option maxHeartbeats 4000000 in
theorem eX13_exactOf_316 (n : Nat) (K215 : Nat → Int32 → Int32 → Int32 → Int32 → Int32 → Int32 → rvS → Option (Int32 × rvS)) (hK215 : ∀ (a0 : Nat) (x1 : Int32) (x2 : Int32) (x3 : Int32) (x4 : Int32) (x5 : Int32) (x6 : Int32) (S : rvS) (r : Int32) (S' : rvS), K215 a0 x1 x2 x3 x4 x5 x6 S = some (r, S') → rv_Ev mX13_exactOf 5 215 [(0, .ref a0), (1, .int x1), (2, .int x2), (3, .int x3), (4, .int x4), (5, .int x5), (6, .int x6)] [] S (some (.int r)) S') (S : rvS) (a0 : Nat) (x1 : Int32) (x2 : Int32) (x3 : Int32) (x4 : Int32) (x5 : Int32) (x6 : Int32) (x7 : Int32) (x8 : Int32) (t0 : Nat) (t1 : Int32) (t2 : Int32) (r : Int32) (S' : rvS) (h : cX13_exactOf_316 n K215 S a0 x1 x2 x3 x4 x5 x6 x7 x8 t0 t1 t2 = some (r, S')) : rv_Ev mX13_exactOf 5 316 [(0, .ref a0), (1, .int x1), (2, .int x2), (3, .int x3), (4, .int x4), (5, .int x5), (6, .int x6), (7, .int x7), (8, .int x8)] [.int t2, .int t1, .ref t0] S (some (.int r)) S' := by
  unfold cX13_exactOf_316 at h
  obtain ⟨S1_, g2_, h⟩ := rv_b_e h
  refine re_uI (pc := 316) g2_ (by decide +kernel : decode cX13_exactOf 316 = .ok (.iastore, 1)) ?_
  refine re_iload (pc := 317) 8 (by decide +kernel : decode cX13_exactOf 317 = .ok (.iload 8, 2)) rfl ?_
  rcases rv_if_e h with ⟨g3_, h⟩ | ⟨g3_, h⟩
  · refine re_if_eq_t (pc := 319) 329 (by decide +kernel : decode cX13_exactOf 319 = .ok (.ifCond .eq 10, 3)) (by decide) g3_ ?_
    obtain ⟨x4_, g5_, h⟩ := rv_lt_e h
    refine re_iinc (pc := 329) 6 x4_ (lv1 := [(6, .int x4_), (0, .ref a0), (1, .int x1), (2, .int x2), (3, .int x3), (4, .int x4), (5, .int x5), (7, .int x7), (8, .int x8)]) (by decide +kernel : decode cX13_exactOf 329 = .ok (.iinc 6 1, 3)) rfl g5_ (by decide) rfl ?_
    refine re_goto (pc := 332) 215 (by decide +kernel : decode cX13_exactOf 332 = .ok (.goto (-117), 3)) (by decide) ?_
    refine re_sub [1, 2, 3, 4, 5, 6, 0] (lv1 := [(0, .ref a0), (1, .int x1), (2, .int x2), (3, .int x3), (4, .int x4), (5, .int x5), (6, .int x4_)]) rfl ?_
    exact hK215 a0 x1 x2 x3 x4 x5 x4_ S1_ _ _ h
  · refine re_if_eq_f (pc := 319) 329 (by decide +kernel : decode cX13_exactOf 319 = .ok (.ifCond .eq 10, 3)) (by decide) g3_ ?_
    refine re_iload (pc := 322) 5 (by decide +kernel : decode cX13_exactOf 322 = .ok (.iload 5, 2)) rfl ?_
    refine re_iload (pc := 324) 7 (by decide +kernel : decode cX13_exactOf 324 = .ok (.iload 7, 2)) rfl ?_
    refine re_isub (pc := 326) (by decide +kernel : decode cX13_exactOf 326 = .ok (.isub, 1)) ?_
    obtain ⟨x6_, g7_, h⟩ := rv_lt_e h
    refine re_nI (pc := 327) g7_ ?_
    refine re_istore (pc := 327) (lv1 := [(5, .int x6_), (0, .ref a0), (1, .int x1), (2, .int x2), (3, .int x3), (4, .int x4), (6, .int x6), (7, .int x7), (8, .int x8)]) (by decide +kernel : decode cX13_exactOf 327 = .ok (.istore 5, 2)) (by decide) rfl ?_
    obtain ⟨x8_, g9_, h⟩ := rv_lt_e h
    refine re_iinc (pc := 329) 6 x8_ (lv1 := [(6, .int x8_), (5, .int x6_), (0, .ref a0), (1, .int x1), (2, .int x2), (3, .int x3), (4, .int x4), (7, .int x7), (8, .int x8)]) (by decide +kernel : decode cX13_exactOf 329 = .ok (.iinc 6 1, 3)) rfl g9_ (by decide) rfl ?_
    refine re_goto (pc := 332) 215 (by decide +kernel : decode cX13_exactOf 332 = .ok (.goto (-117), 3)) (by decide) ?_
    refine re_sub [2, 3, 4, 5, 6, 1, 0] (lv1 := [(0, .ref a0), (1, .int x1), (2, .int x2), (3, .int x3), (4, .int x4), (5, .int x6_), (6, .int x8_)]) rfl ?_
    exact hK215 a0 x1 x2 x3 x4 x6_ x8_ S1_ _ _ h
noncomputable def cX13_exactOf_298 (n : Nat) (K215 : Nat → Int32 → Int32 → Int32 → Int32 → Int32 → Int32 → rvS → Option (Int32 × rvS)) (S : rvS) (a0 : Nat) (x1 : Int32) (x2 : Int32) (x3 : Int32) (x4 : Int32) (x5 : Int32) (x6 : Int32) (x7 : Int32) (t0 : Int32) : Option (Int32 × rvS) :=
  (rv_gR S 11 a0 27).bind fun a1_ =>
  if t0 = 0 then (
    cX13_exactOf_316 n K215 S a0 x1 x2 x3 x4 x5 x6 x7 t0 a1_ x6 (0 : Int32))
  else (
    cX13_exactOf_316 n K215 S a0 x1 x2 x3 x4 x5 x6 x7 t0 a1_ x6 (1 : Int32))
set_option maxRecDepth 20000 in
set_option maxHeartbeats 4000000 in
theorem eX13_exactOf_298 (n : Nat) (K215 : Nat → Int32 → Int32 → Int32 → Int32 → Int32 → Int32 → rvS → Option (Int32 × rvS)) (hK215 : ∀ (a0 : Nat) (x1 : Int32) (x2 : Int32) (x3 : Int32) (x4 : Int32) (x5 : Int32) (x6 : Int32) (S : rvS) (r : Int32) (S' : rvS), K215 a0 x1 x2 x3 x4 x5 x6 S = some (r, S') → rv_Ev mX13_exactOf 5 215 [(0, .ref a0), (1, .int x1), (2, .int x2), (3, .int x3), (4, .int x4), (5, .int x5), (6, .int x6)] [] S (some (.int r)) S') (S : rvS) (a0 : Nat) (x1 : Int32) (x2 : Int32) (x3 : Int32) (x4 : Int32) (x5 : Int32) (x6 : Int32) (x7 : Int32) (t0 : Int32) (r : Int32) (S' : rvS) (h : cX13_exactOf_298 n K215 S a0 x1 x2 x3 x4 x5 x6 x7 t0 = some (r, S')) : rv_Ev mX13_exactOf 5 298 [(0, .ref a0), (1, .int x1), (2, .int x2), (3, .int x3), (4, .int x4), (5, .int x5), (6, .int x6), (7, .int x7)] [.int t0] S (some (.int r)) S' := by
  unfold cX13_exactOf_298 at h
  refine re_istore (pc := 298) (lv1 := [(8, .int t0), (0, .ref a0), (1, .int x1), (2, .int x2), (3, .int x3), (4, .int x4), (5, .int x5), (6, .int x6), (7, .int x7)]) (by decide +kernel : decode cX13_exactOf 298 = .ok (.istore 8, 2)) (by decide) rfl ?_
  refine re_aloadn (pc := 300) 1 (by decide +kernel : decode cX13_exactOf 300 = .ok (.aload_n 0, 1)) rfl ?_
  obtain ⟨a1_, g2_, h⟩ := rv_b_e h
  refine re_gR (pc := 301) g2_ lfX13_49 rfl (by decide +kernel : decode cX13_exactOf 301 = .ok (.getfield 49, 3)) ?_
  refine re_iload (pc := 304) 7 (by decide +kernel : decode cX13_exactOf 304 = .ok (.iload 6, 2)) rfl ?_
  refine re_iload (pc := 306) 0 (by decide +kernel : decode cX13_exactOf 306 = .ok (.iload 8, 2)) rfl ?_
  rcases rv_if_e h with ⟨g3_, h⟩ | ⟨g3_, h⟩
  · refine re_if_eq_t (pc := 308) 315 (by decide +kernel : decode cX13_exactOf 308 = .ok (.ifCond .eq 7, 3)) (by decide) g3_ ?_
    refine re_iconst (pc := 315) (0 : Int32) (by decide +kernel : decode cX13_exactOf 315 = .ok (.iconst 0, 1)) (by decide) ?_
    refine re_sub [1, 2, 3, 4, 5, 6, 7, 8, 0] (lv1 := [(0, .ref a0), (1, .int x1), (2, .int x2), (3, .int x3), (4, .int x4), (5, .int x5), (6, .int x6), (7, .int x7), (8, .int t0)]) rfl ?_
    exact eX13_exactOf_316 n K215 hK215 S a0 x1 x2 x3 x4 x5 x6 x7 t0 a1_ x6 (0 : Int32) _ _ h
  · refine re_if_eq_f (pc := 308) 315 (by decide +kernel : decode cX13_exactOf 308 = .ok (.ifCond .eq 7, 3)) (by decide) g3_ ?_
    refine re_iconst (pc := 311) (1 : Int32) (by decide +kernel : decode cX13_exactOf 311 = .ok (.iconst 1, 1)) (by decide) ?_
    refine re_goto (pc := 312) 316 (by decide +kernel : decode cX13_exactOf 312 = .ok (.goto 4, 3)) (by decide) ?_
    refine re_sub [1, 2, 3, 4, 5, 6, 7, 8, 0] (lv1 := [(0, .ref a0), (1, .int x1), (2, .int x2), (3, .int x3), (4, .int x4), (5, .int x5), (6, .int x6), (7, .int x7), (8, .int t0)]) rfl ?_
    exact eX13_exactOf_316 n K215 hK215 S a0 x1 x2 x3 x4 x5 x6 x7 t0 a1_ x6 (1 : Int32) _ _ h
noncomputable def cX13_exactOf_297 (n : Nat) (K215 : Nat → Int32 → Int32 → Int32 → Int32 → Int32 → Int32 → rvS → Option (Int32 × rvS)) (S : rvS) (a0 : Nat) (x1 : Int32) (x2 : Int32) (x3 : Int32) (x4 : Int32) (x5 : Int32) (x6 : Int32) (x7 : Int32) : Option (Int32 × rvS) :=
  cX13_exactOf_298 n K215 S a0 x1 x2 x3 x4 x5 x6 x7 (0 : Int32)
set_option maxRecDepth 20000 in
set_option maxHeartbeats 4000000 in
theorem eX13_exactOf_297 (n : Nat) (K215 : Nat → Int32 → Int32 → Int32 → Int32 → Int32 → Int32 → rvS → Option (Int32 × rvS)) (hK215 : ∀ (a0 : Nat) (x1 : Int32) (x2 : Int32) (x3 : Int32) (x4 : Int32) (x5 : Int32) (x6 : Int32) (S : rvS) (r : Int32) (S' : rvS), K215 a0 x1 x2 x3 x4 x5 x6 S = some (r, S') → rv_Ev mX13_exactOf 5 215 [(0, .ref a0), (1, .int x1), (2, .int x2), (3, .int x3), (4, .int x4), (5, .int x5), (6, .int x6)] [] S (some (.int r)) S') (S : rvS) (a0 : Nat) (x1 : Int32) (x2 : Int32) (x3 : Int32) (x4 : Int32) (x5 : Int32) (x6 : Int32) (x7 : Int32) (r : Int32) (S' : rvS) (h : cX13_exactOf_297 n K215 S a0 x1 x2 x3 x4 x5 x6 x7 = some (r, S')) : rv_Ev mX13_exactOf 5 297 [(0, .ref a0), (1, .int x1), (2, .int x2), (3, .int x3), (4, .int x4), (5, .int x5), (6, .int x6), (7, .int x7)] [] S (some (.int r)) S' := by
  unfold cX13_exactOf_297 at h
  refine re_iconst (pc := 297) (0 : Int32) (by decide +kernel : decode cX13_exactOf 297 = .ok (.iconst 0, 1)) (by decide) ?_
  exact eX13_exactOf_298 n K215 hK215 S a0 x1 x2 x3 x4 x5 x6 x7 (0 : Int32) _ _ h
noncomputable def cX13_exactOf_246 (n : Nat) (K215 : Nat → Int32 → Int32 → Int32 → Int32 → Int32 → Int32 → rvS → Option (Int32 × rvS)) (S : rvS) (a0 : Nat) (x1 : Int32) (x2 : Int32) (x3 : Int32) (x4 : Int32) (x5 : Int32) (x6 : Int32) (t0 : Int32) : Option (Int32 × rvS) :=
  if x5 < t0 then (
    cX13_exactOf_297 n K215 S a0 x1 x2 x3 x4 x5 x6 t0)
  else (
    (rv_gR S 11 a0 25).bind fun a2_ =>
    (rv_aI S 0 a2_ ((((1000 : Int32) * (x6 + (1 : Int32))) + x5) - t0)).bind fun x4_ =>
    (rv_gR S 11 a0 25).bind fun a6_ =>
    (rv_aI S 0 a6_ (((1000 : Int32) * x6) + x5)).bind fun x8_ =>
    if (x4_ + (1 : Int32)) = x8_ then (
      cX13_exactOf_298 n K215 S a0 x1 x2 x3 x4 x5 x6 t0 (1 : Int32))
    else (
      cX13_exactOf_297 n K215 S a0 x1 x2 x3 x4 x5 x6 t0))
set_option maxRecDepth 20000 in
set_option maxHeartbeats 4000000 in
theorem eX13_exactOf_246 (n : Nat) (K215 : Nat → Int32 → Int32 → Int32 → Int32 → Int32 → Int32 → rvS → Option (Int32 × rvS)) (hK215 : ∀ (a0 : Nat) (x1 : Int32) (x2 : Int32) (x3 : Int32) (x4 : Int32) (x5 : Int32) (x6 : Int32) (S : rvS) (r : Int32) (S' : rvS), K215 a0 x1 x2 x3 x4 x5 x6 S = some (r, S') → rv_Ev mX13_exactOf 5 215 [(0, .ref a0), (1, .int x1), (2, .int x2), (3, .int x3), (4, .int x4), (5, .int x5), (6, .int x6)] [] S (some (.int r)) S') (S : rvS) (a0 : Nat) (x1 : Int32) (x2 : Int32) (x3 : Int32) (x4 : Int32) (x5 : Int32) (x6 : Int32) (t0 : Int32) (r : Int32) (S' : rvS) (h : cX13_exactOf_246 n K215 S a0 x1 x2 x3 x4 x5 x6 t0 = some (r, S')) : rv_Ev mX13_exactOf 5 246 [(0, .ref a0), (1, .int x1), (2, .int x2), (3, .int x3), (4, .int x4), (5, .int x5), (6, .int x6)] [.int t0] S (some (.int r)) S' := by
  unfold cX13_exactOf_246 at h
  refine re_istore (pc := 246) (lv1 := [(7, .int t0), (0, .ref a0), (1, .int x1), (2, .int x2), (3, .int x3), (4, .int x4), (5, .int x5), (6, .int x6)]) (by decide +kernel : decode cX13_exactOf 246 = .ok (.istore 7, 2)) (by decide) rfl ?_
  refine re_iload (pc := 248) 0 (by decide +kernel : decode cX13_exactOf 248 = .ok (.iload 7, 2)) rfl ?_
  refine re_iload (pc := 250) 6 (by decide +kernel : decode cX13_exactOf 250 = .ok (.iload 5, 2)) rfl ?_
  rcases rv_if_e h with ⟨g1_, h⟩ | ⟨g1_, h⟩
  · refine re_icmp_gt_t (pc := 252) 297 (by decide +kernel : decode cX13_exactOf 252 = .ok (.if_icmp .gt 45, 3)) (by decide) g1_ ?_
    refine re_sub [1, 2, 3, 4, 5, 6, 7, 0] (lv1 := [(0, .ref a0), (1, .int x1), (2, .int x2), (3, .int x3), (4, .int x4), (5, .int x5), (6, .int x6), (7, .int t0)]) rfl ?_
    exact eX13_exactOf_297 n K215 hK215 S a0 x1 x2 x3 x4 x5 x6 t0 _ _ h
  · refine re_icmp_gt_f (pc := 252) 297 (by decide +kernel : decode cX13_exactOf 252 = .ok (.if_icmp .gt 45, 3)) (by decide) g1_ ?_
    refine re_aloadn (pc := 255) 1 (by decide +kernel : decode cX13_exactOf 255 = .ok (.aload_n 0, 1)) rfl ?_
    obtain ⟨a2_, g3_, h⟩ := rv_b_e h
    refine re_gR (pc := 256) g3_ lfX13_43 rfl (by decide +kernel : decode cX13_exactOf 256 = .ok (.getfield 43, 3)) ?_
    refine re_sipush (pc := 259) (1000 : Int32) (by decide +kernel : decode cX13_exactOf 259 = .ok (.sipush 1000, 3)) (by decide) ?_
    refine re_iload (pc := 262) 7 (by decide +kernel : decode cX13_exactOf 262 = .ok (.iload 6, 2)) rfl ?_
    refine re_iconst (pc := 264) (1 : Int32) (by decide +kernel : decode cX13_exactOf 264 = .ok (.iconst 1, 1)) (by decide) ?_
    refine re_iadd (pc := 265) (by decide +kernel : decode cX13_exactOf 265 = .ok (.iadd, 1)) ?_
    refine re_imul (pc := 266) (by decide +kernel : decode cX13_exactOf 266 = .ok (.imul, 1)) ?_
    refine re_iload (pc := 267) 6 (by decide +kernel : decode cX13_exactOf 267 = .ok (.iload 5, 2)) rfl ?_
    refine re_iadd (pc := 269) (by decide +kernel : decode cX13_exactOf 269 = .ok (.iadd, 1)) ?_
    refine re_iload (pc := 270) 0 (by decide +kernel : decode cX13_exactOf 270 = .ok (.iload 7, 2)) rfl ?_
    refine re_isub (pc := 272) (by decide +kernel : decode cX13_exactOf 272 = .ok (.isub, 1)) ?_
    obtain ⟨x4_, g5_, h⟩ := rv_b_e h
    refine re_aI (pc := 273) g5_ (by decide +kernel : decode cX13_exactOf 273 = .ok (.iaload, 1)) ?_
    refine re_iconst (pc := 274) (1 : Int32) (by decide +kernel : decode cX13_exactOf 274 = .ok (.iconst 1, 1)) (by decide) ?_
    refine re_iadd (pc := 275) (by decide +kernel : decode cX13_exactOf 275 = .ok (.iadd, 1)) ?_
    refine re_aloadn (pc := 276) 1 (by decide +kernel : decode cX13_exactOf 276 = .ok (.aload_n 0, 1)) rfl ?_
    obtain ⟨a6_, g7_, h⟩ := rv_b_e h
    refine re_gR (pc := 277) g7_ lfX13_43 rfl (by decide +kernel : decode cX13_exactOf 277 = .ok (.getfield 43, 3)) ?_
    refine re_sipush (pc := 280) (1000 : Int32) (by decide +kernel : decode cX13_exactOf 280 = .ok (.sipush 1000, 3)) (by decide) ?_
    refine re_iload (pc := 283) 7 (by decide +kernel : decode cX13_exactOf 283 = .ok (.iload 6, 2)) rfl ?_
    refine re_imul (pc := 285) (by decide +kernel : decode cX13_exactOf 285 = .ok (.imul, 1)) ?_
    refine re_iload (pc := 286) 6 (by decide +kernel : decode cX13_exactOf 286 = .ok (.iload 5, 2)) rfl ?_
    refine re_iadd (pc := 288) (by decide +kernel : decode cX13_exactOf 288 = .ok (.iadd, 1)) ?_
    obtain ⟨x8_, g9_, h⟩ := rv_b_e h
    refine re_aI (pc := 289) g9_ (by decide +kernel : decode cX13_exactOf 289 = .ok (.iaload, 1)) ?_
    rcases rv_if_e h with ⟨g10_, h⟩ | ⟨g10_, h⟩
    · refine re_icmp_ne_f (pc := 290) 297 (by decide +kernel : decode cX13_exactOf 290 = .ok (.if_icmp .ne 7, 3)) (by decide) g10_ ?_
      refine re_iconst (pc := 293) (1 : Int32) (by decide +kernel : decode cX13_exactOf 293 = .ok (.iconst 1, 1)) (by decide) ?_
      refine re_goto (pc := 294) 298 (by decide +kernel : decode cX13_exactOf 294 = .ok (.goto 4, 3)) (by decide) ?_
      refine re_sub [1, 2, 3, 4, 5, 6, 7, 0] (lv1 := [(0, .ref a0), (1, .int x1), (2, .int x2), (3, .int x3), (4, .int x4), (5, .int x5), (6, .int x6), (7, .int t0)]) rfl ?_
      exact eX13_exactOf_298 n K215 hK215 S a0 x1 x2 x3 x4 x5 x6 t0 (1 : Int32) _ _ h
    · refine re_icmp_ne_t (pc := 290) 297 (by decide +kernel : decode cX13_exactOf 290 = .ok (.if_icmp .ne 7, 3)) (by decide) g10_ ?_
      refine re_sub [1, 2, 3, 4, 5, 6, 7, 0] (lv1 := [(0, .ref a0), (1, .int x1), (2, .int x2), (3, .int x3), (4, .int x4), (5, .int x5), (6, .int x6), (7, .int t0)]) rfl ?_
      exact eX13_exactOf_297 n K215 hK215 S a0 x1 x2 x3 x4 x5 x6 t0 _ _ h
noncomputable def cX13_exactOf_215 (n : Nat) : Nat → rvS → Nat → Int32 → Int32 → Int32 → Int32 → Int32 → Int32 → Option (Int32 × rvS)
  | 0, _, _, _, _, _, _, _, _ => none
  | k + 1, S, a0, x1, x2, x3, x4, x5, x6 =>
    if x4 ≤ x6 then (
      (rv_gR S 11 a0 25).bind fun a2_ =>
      (rv_aI S 0 a2_ x3).bind fun x4_ =>
      some (x4_, S))
    else (
      (rv_ck S 11 a0).bind fun u6_ =>
      rv_bp (fnX13_isFor n S a0 x6 x1 x2) fun x9_ S10_ =>
      if x9_ = 0 then (
        cX13_exactOf_246 n (fun a0 x1 x2 x3 x4 x5 x6 S => cX13_exactOf_215 n k S a0 x1 x2 x3 x4 x5 x6) S10_ a0 x1 x2 x3 x4 x5 x6 (1000 : Int32))
      else (
        (rv_ck S10_ 11 a0).bind fun u14_ =>
        (fnX13_ofCoin n S10_ a0 x6 (0 : Int32)).bind fun x17_ =>
        cX13_exactOf_246 n (fun a0 x1 x2 x3 x4 x5 x6 S => cX13_exactOf_215 n k S a0 x1 x2 x3 x4 x5 x6) S10_ a0 x1 x2 x3 x4 x5 x6 x17_))
set_option maxRecDepth 20000 in
set_option maxHeartbeats 4000000 in
theorem eX13_exactOf_215 (n : Nat) : ∀ (k : Nat) (S : rvS) (a0 : Nat) (x1 : Int32) (x2 : Int32) (x3 : Int32) (x4 : Int32) (x5 : Int32) (x6 : Int32) (r : Int32) (S' : rvS), cX13_exactOf_215 n k S a0 x1 x2 x3 x4 x5 x6 = some (r, S') → rv_Ev mX13_exactOf 5 215 [(0, .ref a0), (1, .int x1), (2, .int x2), (3, .int x3), (4, .int x4), (5, .int x5), (6, .int x6)] [] S (some (.int r)) S' := by
  intro k
  induction k with
  | zero => intro S a0 x1 x2 x3 x4 x5 x6 r S' h; exact absurd h (by simp [cX13_exactOf_215])
  | succ k ih =>
    intro S a0 x1 x2 x3 x4 x5 x6 r S' h
    unfold cX13_exactOf_215 at h
    refine re_iload (pc := 215) 6 (by decide +kernel : decode cX13_exactOf 215 = .ok (.iload 6, 2)) rfl ?_
    refine re_iload (pc := 217) 4 (by decide +kernel : decode cX13_exactOf 217 = .ok (.iload 4, 2)) rfl ?_
    rcases rv_if_e h with ⟨g1_, h⟩ | ⟨g1_, h⟩
    · refine re_icmp_ge_t (pc := 219) 335 (by decide +kernel : decode cX13_exactOf 219 = .ok (.if_icmp .ge 116, 3)) (by decide) g1_ ?_
      refine re_aloadn (pc := 335) 0 (by decide +kernel : decode cX13_exactOf 335 = .ok (.aload_n 0, 1)) rfl ?_
      obtain ⟨a2_, g3_, h⟩ := rv_b_e h
      refine re_gR (pc := 336) g3_ lfX13_43 rfl (by decide +kernel : decode cX13_exactOf 336 = .ok (.getfield 43, 3)) ?_
      refine re_iloadn (pc := 339) 3 (by decide +kernel : decode cX13_exactOf 339 = .ok (.iload_n 3, 1)) rfl ?_
      obtain ⟨x4_, g5_, h⟩ := rv_b_e h
      refine re_aI (pc := 340) g5_ (by decide +kernel : decode cX13_exactOf 340 = .ok (.iaload, 1)) ?_
      cases h
      exact re_iret (fun ty hty => by cases hty; rfl) (by decide +kernel : decode cX13_exactOf 341 = .ok (.ireturn, 1))
    · refine re_icmp_ge_f (pc := 219) 335 (by decide +kernel : decode cX13_exactOf 219 = .ok (.if_icmp .ge 116, 3)) (by decide) g1_ ?_
      refine re_aloadn (pc := 222) 0 (by decide +kernel : decode cX13_exactOf 222 = .ok (.aload_n 0, 1)) rfl ?_
      refine re_iload (pc := 223) 6 (by decide +kernel : decode cX13_exactOf 223 = .ok (.iload 6, 2)) rfl ?_
      refine re_iloadn (pc := 225) 1 (by decide +kernel : decode cX13_exactOf 225 = .ok (.iload_n 1, 1)) rfl ?_
      refine re_iloadn (pc := 226) 2 (by decide +kernel : decode cX13_exactOf 226 = .ok (.iload_n 2, 1)) rfl ?_
      obtain ⟨u6_, g7_, h⟩ := rv_b_e h
      obtain ⟨x9_, S10_, g11_, h⟩ := rv_bp_e h
      have m8_ := metX13_isFor n S a0 x6 x1 x2 _ _ g11_
      have z12_ : rv_same S S10_ := m8_.sh rfl
      refine re_cV (pc := 227) [.int x6, .int x1, .int x2] m8_ (rv_okl.k z12_) (rv_up.sh z12_) (by decide) (rv_ck_e g7_) ⟨by decide, rfl⟩ (Nat.le_of_ble_eq_true rfl) lVX13_313 rfl (by decide +kernel : decode cX13_exactOf 227 = .ok (.invokevirtual 313, 3)) ?_
      rcases rv_if_e h with ⟨g13_, h⟩ | ⟨g13_, h⟩
      · refine re_if_eq_t (pc := 230) 243 (by decide +kernel : decode cX13_exactOf 230 = .ok (.ifCond .eq 13, 3)) (by decide) g13_ ?_
        refine re_sipush (pc := 243) (1000 : Int32) (by decide +kernel : decode cX13_exactOf 243 = .ok (.sipush 1000, 3)) (by decide) ?_
        exact eX13_exactOf_246 n (fun a0 x1 x2 x3 x4 x5 x6 S => cX13_exactOf_215 n k S a0 x1 x2 x3 x4 x5 x6) (fun a0 x1 x2 x3 x4 x5 x6 S _ _ h => ih S a0 x1 x2 x3 x4 x5 x6 _ _ h) S10_ a0 x1 x2 x3 x4 x5 x6 (1000 : Int32) _ _ h
      · refine re_if_eq_f (pc := 230) 243 (by decide +kernel : decode cX13_exactOf 230 = .ok (.ifCond .eq 13, 3)) (by decide) g13_ ?_
        refine re_aloadn (pc := 233) 0 (by decide +kernel : decode cX13_exactOf 233 = .ok (.aload_n 0, 1)) rfl ?_
        refine re_iload (pc := 234) 6 (by decide +kernel : decode cX13_exactOf 234 = .ok (.iload 6, 2)) rfl ?_
        refine re_iconst (pc := 236) (0 : Int32) (by decide +kernel : decode cX13_exactOf 236 = .ok (.iconst 0, 1)) (by decide) ?_
        obtain ⟨u14_, g15_, h⟩ := rv_b_e h
        obtain ⟨x17_, g18_, h⟩ := rv_b_e h
        have m16_ := metX13_ofCoin n S10_ a0 x6 (0 : Int32) _ g18_
        refine re_cV (pc := 237) [.int x6, .int (0 : Int32)] m16_ (rv_okl.k ⟨rfl, rfl⟩) (rv_up.rf _ _) (by decide) (rv_ck_e g15_) ⟨by decide, rfl⟩ (Nat.le_of_ble_eq_true rfl) lVX13_271 rfl (by decide +kernel : decode cX13_exactOf 237 = .ok (.invokevirtual 271, 3)) ?_
        refine re_goto (pc := 240) 246 (by decide +kernel : decode cX13_exactOf 240 = .ok (.goto 6, 3)) (by decide) ?_
        exact eX13_exactOf_246 n (fun a0 x1 x2 x3 x4 x5 x6 S => cX13_exactOf_215 n k S a0 x1 x2 x3 x4 x5 x6) (fun a0 x1 x2 x3 x4 x5 x6 S _ _ h => ih S a0 x1 x2 x3 x4 x5 x6 _ _ h) S10_ a0 x1 x2 x3 x4 x5 x6 x17_ _ _ h
noncomputable def cX13_exactOf_195 (n : Nat) (S : rvS) (a0 : Nat) (x1 : Int32) (x2 : Int32) (x3 : Int32) (x4 : Int32) : Option (Int32 × rvS) :=
  (rv_gR S 11 a0 25).bind fun a1_ =>
  (rv_aI S 0 a1_ x3).bind fun x3_ =>
  if x3_ < (10000 : Int32) then (
    cX13_exactOf_215 n n S a0 x1 x2 x3 x4 x3 (0 : Int32))
  else (
    some ((-1 : Int32), S))
set_option maxRecDepth 20000 in
set_option maxHeartbeats 4000000 in
theorem eX13_exactOf_195 (n : Nat) (S : rvS) (a0 : Nat) (x1 : Int32) (x2 : Int32) (x3 : Int32) (x4 : Int32) (r : Int32) (S' : rvS) (h : cX13_exactOf_195 n S a0 x1 x2 x3 x4 = some (r, S')) : rv_Ev mX13_exactOf 5 195 [(0, .ref a0), (1, .int x1), (2, .int x2), (3, .int x3), (4, .int x4)] [] S (some (.int r)) S' := by
  unfold cX13_exactOf_195 at h
  refine re_aloadn (pc := 195) 0 (by decide +kernel : decode cX13_exactOf 195 = .ok (.aload_n 0, 1)) rfl ?_
  obtain ⟨a1_, g2_, h⟩ := rv_b_e h
  refine re_gR (pc := 196) g2_ lfX13_43 rfl (by decide +kernel : decode cX13_exactOf 196 = .ok (.getfield 43, 3)) ?_
  refine re_iloadn (pc := 199) 3 (by decide +kernel : decode cX13_exactOf 199 = .ok (.iload_n 3, 1)) rfl ?_
  obtain ⟨x3_, g4_, h⟩ := rv_b_e h
  refine re_aI (pc := 200) g4_ (by decide +kernel : decode cX13_exactOf 200 = .ok (.iaload, 1)) ?_
  refine re_sipush (pc := 201) (10000 : Int32) (by decide +kernel : decode cX13_exactOf 201 = .ok (.sipush 10000, 3)) (by decide) ?_
  rcases rv_if_e h with ⟨g5_, h⟩ | ⟨g5_, h⟩
  · refine re_icmp_lt_t (pc := 204) 209 (by decide +kernel : decode cX13_exactOf 204 = .ok (.if_icmp .lt 5, 3)) (by decide) g5_ ?_
    refine re_iloadn (pc := 209) 3 (by decide +kernel : decode cX13_exactOf 209 = .ok (.iload_n 3, 1)) rfl ?_
    refine re_istore (pc := 210) (lv1 := [(5, .int x3), (0, .ref a0), (1, .int x1), (2, .int x2), (3, .int x3), (4, .int x4)]) (by decide +kernel : decode cX13_exactOf 210 = .ok (.istore 5, 2)) (by decide) rfl ?_
    refine re_iconst (pc := 212) (0 : Int32) (by decide +kernel : decode cX13_exactOf 212 = .ok (.iconst 0, 1)) (by decide) ?_
    refine re_istore (pc := 213) (lv1 := [(6, .int (0 : Int32)), (5, .int x3), (0, .ref a0), (1, .int x1), (2, .int x2), (3, .int x3), (4, .int x4)]) (by decide +kernel : decode cX13_exactOf 213 = .ok (.istore 6, 2)) (by decide) rfl ?_
    refine re_sub [2, 3, 4, 5, 6, 1, 0] (lv1 := [(0, .ref a0), (1, .int x1), (2, .int x2), (3, .int x3), (4, .int x4), (5, .int x3), (6, .int (0 : Int32))]) rfl ?_
    exact eX13_exactOf_215 n n S a0 x1 x2 x3 x4 x3 (0 : Int32) _ _ h
  · refine re_icmp_lt_f (pc := 204) 209 (by decide +kernel : decode cX13_exactOf 204 = .ok (.if_icmp .lt 5, 3)) (by decide) g5_ ?_
    refine re_iconst (pc := 207) (-1 : Int32) (by decide +kernel : decode cX13_exactOf 207 = .ok (.iconst (-1), 1)) (by decide) ?_
    cases h
    exact re_iret (fun ty hty => by cases hty; rfl) (by decide +kernel : decode cX13_exactOf 208 = .ok (.ireturn, 1))
noncomputable def cX13_exactOf_53 (n : Nat) : Nat → rvS → Nat → Int32 → Int32 → Int32 → Int32 → Int32 → Option (Int32 × rvS)
  | 0, _, _, _, _, _, _, _ => none
  | k + 1, S, a0, x1, x2, x3, x4, x5 =>
    if x5 < 0 then (
      cX13_exactOf_195 n S a0 x1 x2 x3 x4)
    else (
      (rv_ck S 11 a0).bind fun u2_ =>
      rv_bp (fnX13_isFor n S a0 x5 x1 x2) fun x5_ S6_ =>
      if x5_ = 0 then (
        cX13_exactOf_87 n (fun a0 x1 x2 x3 x4 x5 S => cX13_exactOf_53 n k S a0 x1 x2 x3 x4 x5) n S6_ a0 x1 x2 x3 x4 x5 (1000 : Int32) (0 : Int32))
      else (
        (rv_ck S6_ 11 a0).bind fun u10_ =>
        (fnX13_ofCoin n S6_ a0 x5 (0 : Int32)).bind fun x13_ =>
        cX13_exactOf_87 n (fun a0 x1 x2 x3 x4 x5 S => cX13_exactOf_53 n k S a0 x1 x2 x3 x4 x5) n S6_ a0 x1 x2 x3 x4 x5 x13_ (0 : Int32)))
set_option maxRecDepth 20000 in
set_option maxHeartbeats 4000000 in
theorem eX13_exactOf_53 (n : Nat) : ∀ (k : Nat) (S : rvS) (a0 : Nat) (x1 : Int32) (x2 : Int32) (x3 : Int32) (x4 : Int32) (x5 : Int32) (r : Int32) (S' : rvS), cX13_exactOf_53 n k S a0 x1 x2 x3 x4 x5 = some (r, S') → rv_Ev mX13_exactOf 5 53 [(0, .ref a0), (1, .int x1), (2, .int x2), (3, .int x3), (4, .int x4), (5, .int x5)] [] S (some (.int r)) S' := by
  intro k
  induction k with
  | zero => intro S a0 x1 x2 x3 x4 x5 r S' h; exact absurd h (by simp [cX13_exactOf_53])
  | succ k ih =>
    intro S a0 x1 x2 x3 x4 x5 r S' h
    unfold cX13_exactOf_53 at h
    refine re_iload (pc := 53) 5 (by decide +kernel : decode cX13_exactOf 53 = .ok (.iload 5, 2)) rfl ?_
    rcases rv_if_e h with ⟨g1_, h⟩ | ⟨g1_, h⟩
    · refine re_if_lt_t (pc := 55) 195 (by decide +kernel : decode cX13_exactOf 55 = .ok (.ifCond .lt 140, 3)) (by decide) g1_ ?_
      refine re_sub [0, 1, 2, 3, 4] (lv1 := [(0, .ref a0), (1, .int x1), (2, .int x2), (3, .int x3), (4, .int x4)]) rfl ?_
      exact eX13_exactOf_195 n S a0 x1 x2 x3 x4 _ _ h
    · refine re_if_lt_f (pc := 55) 195 (by decide +kernel : decode cX13_exactOf 55 = .ok (.ifCond .lt 140, 3)) (by decide) g1_ ?_
      refine re_aloadn (pc := 58) 0 (by decide +kernel : decode cX13_exactOf 58 = .ok (.aload_n 0, 1)) rfl ?_
      refine re_iload (pc := 59) 5 (by decide +kernel : decode cX13_exactOf 59 = .ok (.iload 5, 2)) rfl ?_
      refine re_iloadn (pc := 61) 1 (by decide +kernel : decode cX13_exactOf 61 = .ok (.iload_n 1, 1)) rfl ?_
      refine re_iloadn (pc := 62) 2 (by decide +kernel : decode cX13_exactOf 62 = .ok (.iload_n 2, 1)) rfl ?_
      obtain ⟨u2_, g3_, h⟩ := rv_b_e h
      obtain ⟨x5_, S6_, g7_, h⟩ := rv_bp_e h
      have m4_ := metX13_isFor n S a0 x5 x1 x2 _ _ g7_
      have z8_ : rv_same S S6_ := m4_.sh rfl
      refine re_cV (pc := 63) [.int x5, .int x1, .int x2] m4_ (rv_okl.k z8_) (rv_up.sh z8_) (by decide) (rv_ck_e g3_) ⟨by decide, rfl⟩ (Nat.le_of_ble_eq_true rfl) lVX13_313 rfl (by decide +kernel : decode cX13_exactOf 63 = .ok (.invokevirtual 313, 3)) ?_
      rcases rv_if_e h with ⟨g9_, h⟩ | ⟨g9_, h⟩
      · refine re_if_eq_t (pc := 66) 79 (by decide +kernel : decode cX13_exactOf 66 = .ok (.ifCond .eq 13, 3)) (by decide) g9_ ?_
        refine re_sipush (pc := 79) (1000 : Int32) (by decide +kernel : decode cX13_exactOf 79 = .ok (.sipush 1000, 3)) (by decide) ?_
        refine re_istore (pc := 82) (lv1 := [(6, .int (1000 : Int32)), (0, .ref a0), (1, .int x1), (2, .int x2), (3, .int x3), (4, .int x4), (5, .int x5)]) (by decide +kernel : decode cX13_exactOf 82 = .ok (.istore 6, 2)) (by decide) rfl ?_
        refine re_iconst (pc := 84) (0 : Int32) (by decide +kernel : decode cX13_exactOf 84 = .ok (.iconst 0, 1)) (by decide) ?_
        refine re_istore (pc := 85) (lv1 := [(7, .int (0 : Int32)), (6, .int (1000 : Int32)), (0, .ref a0), (1, .int x1), (2, .int x2), (3, .int x3), (4, .int x4), (5, .int x5)]) (by decide +kernel : decode cX13_exactOf 85 = .ok (.istore 7, 2)) (by decide) rfl ?_
        refine re_sub [2, 3, 4, 5, 6, 7, 1, 0] (lv1 := [(0, .ref a0), (1, .int x1), (2, .int x2), (3, .int x3), (4, .int x4), (5, .int x5), (6, .int (1000 : Int32)), (7, .int (0 : Int32))]) rfl ?_
        exact eX13_exactOf_87 n (fun a0 x1 x2 x3 x4 x5 S => cX13_exactOf_53 n k S a0 x1 x2 x3 x4 x5) (fun a0 x1 x2 x3 x4 x5 S _ _ h => ih S a0 x1 x2 x3 x4 x5 _ _ h) n S6_ a0 x1 x2 x3 x4 x5 (1000 : Int32) (0 : Int32) _ _ h
      · refine re_if_eq_f (pc := 66) 79 (by decide +kernel : decode cX13_exactOf 66 = .ok (.ifCond .eq 13, 3)) (by decide) g9_ ?_
        refine re_aloadn (pc := 69) 0 (by decide +kernel : decode cX13_exactOf 69 = .ok (.aload_n 0, 1)) rfl ?_
        refine re_iload (pc := 70) 5 (by decide +kernel : decode cX13_exactOf 70 = .ok (.iload 5, 2)) rfl ?_
        refine re_iconst (pc := 72) (0 : Int32) (by decide +kernel : decode cX13_exactOf 72 = .ok (.iconst 0, 1)) (by decide) ?_
        obtain ⟨u10_, g11_, h⟩ := rv_b_e h
        obtain ⟨x13_, g14_, h⟩ := rv_b_e h
        have m12_ := metX13_ofCoin n S6_ a0 x5 (0 : Int32) _ g14_
        refine re_cV (pc := 73) [.int x5, .int (0 : Int32)] m12_ (rv_okl.k ⟨rfl, rfl⟩) (rv_up.rf _ _) (by decide) (rv_ck_e g11_) ⟨by decide, rfl⟩ (Nat.le_of_ble_eq_true rfl) lVX13_271 rfl (by decide +kernel : decode cX13_exactOf 73 = .ok (.invokevirtual 271, 3)) ?_
        refine re_goto (pc := 76) 82 (by decide +kernel : decode cX13_exactOf 76 = .ok (.goto 6, 3)) (by decide) ?_
        refine re_istore (pc := 82) (lv1 := [(6, .int x13_), (0, .ref a0), (1, .int x1), (2, .int x2), (3, .int x3), (4, .int x4), (5, .int x5)]) (by decide +kernel : decode cX13_exactOf 82 = .ok (.istore 6, 2)) (by decide) rfl ?_
        refine re_iconst (pc := 84) (0 : Int32) (by decide +kernel : decode cX13_exactOf 84 = .ok (.iconst 0, 1)) (by decide) ?_
        refine re_istore (pc := 85) (lv1 := [(7, .int (0 : Int32)), (6, .int x13_), (0, .ref a0), (1, .int x1), (2, .int x2), (3, .int x3), (4, .int x4), (5, .int x5)]) (by decide +kernel : decode cX13_exactOf 85 = .ok (.istore 7, 2)) (by decide) rfl ?_
        refine re_sub [2, 3, 4, 5, 6, 7, 1, 0] (lv1 := [(0, .ref a0), (1, .int x1), (2, .int x2), (3, .int x3), (4, .int x4), (5, .int x5), (6, .int x13_), (7, .int (0 : Int32))]) rfl ?_
        exact eX13_exactOf_87 n (fun a0 x1 x2 x3 x4 x5 S => cX13_exactOf_53 n k S a0 x1 x2 x3 x4 x5) (fun a0 x1 x2 x3 x4 x5 S _ _ h => ih S a0 x1 x2 x3 x4 x5 _ _ h) n S6_ a0 x1 x2 x3 x4 x5 x13_ (0 : Int32) _ _ h
noncomputable def cX13_exactOf_9 (n : Nat) : Nat → rvS → Nat → Int32 → Int32 → Int32 → Int32 → Int32 → Option (Int32 × rvS)
  | 0, _, _, _, _, _, _, _ => none
  | k + 1, S, a0, x1, x2, x3, x4, x5 =>
    if x3 < x5 then (
      rv_lt (x4 - (1 : Int32)) fun x2_ =>
      cX13_exactOf_53 n n S a0 x1 x2 x3 x4 x2_)
    else (
      (rv_gR S 11 a0 25).bind fun a4_ =>
      if x5 = 0 then (
        (rv_uI S a4_ (((1000 : Int32) * x4) + x5) (0 : Int32)).bind fun S11_ =>
        rv_lt (x5 + (1)) fun x13_ =>
        cX13_exactOf_9 n k S11_ a0 x1 x2 x3 x4 x13_)
      else (
        (rv_uI S a4_ (((1000 : Int32) * x4) + x5) (10000 : Int32)).bind fun S7_ =>
        rv_lt (x5 + (1)) fun x9_ =>
        cX13_exactOf_9 n k S7_ a0 x1 x2 x3 x4 x9_))
set_option maxRecDepth 20000 in
set_option maxHeartbeats 4000000 in
theorem eX13_exactOf_9 (n : Nat) : ∀ (k : Nat) (S : rvS) (a0 : Nat) (x1 : Int32) (x2 : Int32) (x3 : Int32) (x4 : Int32) (x5 : Int32) (r : Int32) (S' : rvS), cX13_exactOf_9 n k S a0 x1 x2 x3 x4 x5 = some (r, S') → rv_Ev mX13_exactOf 5 9 [(0, .ref a0), (1, .int x1), (2, .int x2), (3, .int x3), (4, .int x4), (5, .int x5)] [] S (some (.int r)) S' := by
  intro k
  induction k with
  | zero => intro S a0 x1 x2 x3 x4 x5 r S' h; exact absurd h (by simp [cX13_exactOf_9])
  | succ k ih =>
    intro S a0 x1 x2 x3 x4 x5 r S' h
    unfold cX13_exactOf_9 at h
    refine re_iload (pc := 9) 5 (by decide +kernel : decode cX13_exactOf 9 = .ok (.iload 5, 2)) rfl ?_
    refine re_iloadn (pc := 11) 3 (by decide +kernel : decode cX13_exactOf 11 = .ok (.iload_n 3, 1)) rfl ?_
    rcases rv_if_e h with ⟨g1_, h⟩ | ⟨g1_, h⟩
    · refine re_icmp_gt_t (pc := 12) 47 (by decide +kernel : decode cX13_exactOf 12 = .ok (.if_icmp .gt 35, 3)) (by decide) g1_ ?_
      refine re_iload (pc := 47) 4 (by decide +kernel : decode cX13_exactOf 47 = .ok (.iload 4, 2)) rfl ?_
      refine re_iconst (pc := 49) (1 : Int32) (by decide +kernel : decode cX13_exactOf 49 = .ok (.iconst 1, 1)) (by decide) ?_
      refine re_isub (pc := 50) (by decide +kernel : decode cX13_exactOf 50 = .ok (.isub, 1)) ?_
      obtain ⟨x2_, g3_, h⟩ := rv_lt_e h
      refine re_nI (pc := 51) g3_ ?_
      refine re_istore (pc := 51) (lv1 := [(5, .int x2_), (0, .ref a0), (1, .int x1), (2, .int x2), (3, .int x3), (4, .int x4)]) (by decide +kernel : decode cX13_exactOf 51 = .ok (.istore 5, 2)) (by decide) rfl ?_
      refine re_sub [1, 2, 3, 4, 5, 0] (lv1 := [(0, .ref a0), (1, .int x1), (2, .int x2), (3, .int x3), (4, .int x4), (5, .int x2_)]) rfl ?_
      exact eX13_exactOf_53 n n S a0 x1 x2 x3 x4 x2_ _ _ h
    · refine re_icmp_gt_f (pc := 12) 47 (by decide +kernel : decode cX13_exactOf 12 = .ok (.if_icmp .gt 35, 3)) (by decide) g1_ ?_
      refine re_aloadn (pc := 15) 0 (by decide +kernel : decode cX13_exactOf 15 = .ok (.aload_n 0, 1)) rfl ?_
      obtain ⟨a4_, g5_, h⟩ := rv_b_e h
      refine re_gR (pc := 16) g5_ lfX13_43 rfl (by decide +kernel : decode cX13_exactOf 16 = .ok (.getfield 43, 3)) ?_
      refine re_sipush (pc := 19) (1000 : Int32) (by decide +kernel : decode cX13_exactOf 19 = .ok (.sipush 1000, 3)) (by decide) ?_
      refine re_iload (pc := 22) 4 (by decide +kernel : decode cX13_exactOf 22 = .ok (.iload 4, 2)) rfl ?_
      refine re_imul (pc := 24) (by decide +kernel : decode cX13_exactOf 24 = .ok (.imul, 1)) ?_
      refine re_iload (pc := 25) 5 (by decide +kernel : decode cX13_exactOf 25 = .ok (.iload 5, 2)) rfl ?_
      refine re_iadd (pc := 27) (by decide +kernel : decode cX13_exactOf 27 = .ok (.iadd, 1)) ?_
      refine re_iload (pc := 28) 5 (by decide +kernel : decode cX13_exactOf 28 = .ok (.iload 5, 2)) rfl ?_
      rcases rv_if_e h with ⟨g6_, h⟩ | ⟨g6_, h⟩
      · refine re_if_ne_f (pc := 30) 37 (by decide +kernel : decode cX13_exactOf 30 = .ok (.ifCond .ne 7, 3)) (by decide) g6_ ?_
        refine re_iconst (pc := 33) (0 : Int32) (by decide +kernel : decode cX13_exactOf 33 = .ok (.iconst 0, 1)) (by decide) ?_
        refine re_goto (pc := 34) 40 (by decide +kernel : decode cX13_exactOf 34 = .ok (.goto 6, 3)) (by decide) ?_
        obtain ⟨S11_, g12_, h⟩ := rv_b_e h
        refine re_uI (pc := 40) g12_ (by decide +kernel : decode cX13_exactOf 40 = .ok (.iastore, 1)) ?_
        obtain ⟨x13_, g14_, h⟩ := rv_lt_e h
        refine re_iinc (pc := 41) 5 x13_ (lv1 := [(5, .int x13_), (0, .ref a0), (1, .int x1), (2, .int x2), (3, .int x3), (4, .int x4)]) (by decide +kernel : decode cX13_exactOf 41 = .ok (.iinc 5 1, 3)) rfl g14_ (by decide) rfl ?_
        refine re_goto (pc := 44) 9 (by decide +kernel : decode cX13_exactOf 44 = .ok (.goto (-35), 3)) (by decide) ?_
        refine re_sub [1, 2, 3, 4, 5, 0] (lv1 := [(0, .ref a0), (1, .int x1), (2, .int x2), (3, .int x3), (4, .int x4), (5, .int x13_)]) rfl ?_
        exact ih S11_ a0 x1 x2 x3 x4 x13_ _ _ h
      · refine re_if_ne_t (pc := 30) 37 (by decide +kernel : decode cX13_exactOf 30 = .ok (.ifCond .ne 7, 3)) (by decide) g6_ ?_
        refine re_sipush (pc := 37) (10000 : Int32) (by decide +kernel : decode cX13_exactOf 37 = .ok (.sipush 10000, 3)) (by decide) ?_
        obtain ⟨S7_, g8_, h⟩ := rv_b_e h
        refine re_uI (pc := 40) g8_ (by decide +kernel : decode cX13_exactOf 40 = .ok (.iastore, 1)) ?_
        obtain ⟨x9_, g10_, h⟩ := rv_lt_e h
        refine re_iinc (pc := 41) 5 x9_ (lv1 := [(5, .int x9_), (0, .ref a0), (1, .int x1), (2, .int x2), (3, .int x3), (4, .int x4)]) (by decide +kernel : decode cX13_exactOf 41 = .ok (.iinc 5 1, 3)) rfl g10_ (by decide) rfl ?_
        refine re_goto (pc := 44) 9 (by decide +kernel : decode cX13_exactOf 44 = .ok (.goto (-35), 3)) (by decide) ?_
        refine re_sub [1, 2, 3, 4, 5, 0] (lv1 := [(0, .ref a0), (1, .int x1), (2, .int x2), (3, .int x3), (4, .int x4), (5, .int x9_)]) rfl ?_
        exact ih S7_ a0 x1 x2 x3 x4 x9_ _ _ h
noncomputable def fnX13_exactOf (n : Nat) (S : rvS) (a0 : Nat) (x1 : Int32) (x2 : Int32) (x3 : Int32) : Option (Int32 × rvS) :=
  (rv_ck S 11 a0).bind fun u1_ =>
  (fnX13_coins n S a0).bind fun x4_ =>
  cX13_exactOf_9 n n S a0 x1 x2 x3 x4_ (0 : Int32)
set_option maxRecDepth 20000 in
set_option maxHeartbeats 4000000 in
theorem eX13_exactOf_in (n : Nat) (S : rvS) (a0 : Nat) (x1 : Int32) (x2 : Int32) (x3 : Int32) (r : Int32) (S' : rvS) (h : fnX13_exactOf n S a0 x1 x2 x3 = some (r, S')) : rv_Ev mX13_exactOf 5 0 [(0, .ref a0), (1, .int x1), (2, .int x2), (3, .int x3)] [] S (some (.int r)) S' := by
  unfold fnX13_exactOf at h
  refine re_aloadn (pc := 0) 0 (by decide +kernel : decode cX13_exactOf 0 = .ok (.aload_n 0, 1)) rfl ?_
  obtain ⟨u1_, g2_, h⟩ := rv_b_e h
  obtain ⟨x4_, g5_, h⟩ := rv_b_e h
  have m3_ := metX13_coins n S a0 _ g5_
  refine re_cV (pc := 1) [] m3_ (rv_okl.k ⟨rfl, rfl⟩) (rv_up.rf _ _) (by decide) (rv_ck_e g2_) ⟨by decide, rfl⟩ (Nat.le_of_ble_eq_true rfl) lVX13_258 rfl (by decide +kernel : decode cX13_exactOf 1 = .ok (.invokevirtual 258, 3)) ?_
  refine re_istore (pc := 4) (lv1 := [(4, .int x4_), (0, .ref a0), (1, .int x1), (2, .int x2), (3, .int x3)]) (by decide +kernel : decode cX13_exactOf 4 = .ok (.istore 4, 2)) (by decide) rfl ?_
  refine re_iconst (pc := 6) (0 : Int32) (by decide +kernel : decode cX13_exactOf 6 = .ok (.iconst 0, 1)) (by decide) ?_
  refine re_istore (pc := 7) (lv1 := [(5, .int (0 : Int32)), (4, .int x4_), (0, .ref a0), (1, .int x1), (2, .int x2), (3, .int x3)]) (by decide +kernel : decode cX13_exactOf 7 = .ok (.istore 5, 2)) (by decide) rfl ?_
  refine re_sub [2, 3, 4, 5, 1, 0] (lv1 := [(0, .ref a0), (1, .int x1), (2, .int x2), (3, .int x3), (4, .int x4_), (5, .int (0 : Int32))]) rfl ?_
  exact eX13_exactOf_9 n n S a0 x1 x2 x3 x4_ (0 : Int32) _ _ h
theorem metX13_exactOf (n : Nat) (S : rvS) (a0 : Nat) (x1 : Int32) (x2 : Int32) (x3 : Int32) (r : Int32) (S' : rvS) (h : fnX13_exactOf n S a0 x1 x2 x3 = some (r, S')) : rv_Met yX13_exactOf mX13_exactOf 5 [.ref a0, .int x1, .int x2, .int x3] S (some (.int r)) S' := rv_Met.of ⟨by decide +kernel, rfl, (fun z => by first | rfl | cases z), rfl⟩ (Nat.le_of_ble_eq_true rfl) rfl (eX13_exactOf_in n S a0 x1 x2 x3 r S' h)
noncomputable def cX13_tell_10 (n : Nat) : Nat → rvS → Nat → Int32 → Option rvS
  | 0, _, _, _ => none
  | k + 1, S, a0, x1 =>
    (rv_gI S 11 a0 28).bind fun x1_ =>
    if x1_ ≤ x1 then (
      some S)
    else (
      (rv_gR S 11 a0 26).bind fun a4_ =>
      (rv_gR S 11 a0 27).bind fun a6_ =>
      (rv_aI S 0 a6_ x1).bind fun x8_ =>
      (rv_uI S a4_ x1 x8_).bind fun S10_ =>
      rv_lt (x1 + (1)) fun x12_ =>
      cX13_tell_10 n k S10_ a0 x12_)
set_option maxRecDepth 20000 in
set_option maxHeartbeats 4000000 in
theorem eX13_tell_10 (n : Nat) : ∀ (k : Nat) (S : rvS) (a0 : Nat) (x1 : Int32) (S' : rvS), cX13_tell_10 n k S a0 x1 = some S' → rv_Ev mX13_tell 1 10 [(0, .ref a0), (1, .int x1)] [] S none S' := by
  intro k
  induction k with
  | zero => intro S a0 x1 S' h; exact absurd h (by simp [cX13_tell_10])
  | succ k ih =>
    intro S a0 x1 S' h
    unfold cX13_tell_10 at h
    refine re_iloadn (pc := 10) 1 (by decide +kernel : decode cX13_tell 10 = .ok (.iload_n 1, 1)) rfl ?_
    refine re_aloadn (pc := 11) 0 (by decide +kernel : decode cX13_tell 11 = .ok (.aload_n 0, 1)) rfl ?_
    obtain ⟨x1_, g2_, h⟩ := rv_b_e h
    refine re_gI (pc := 12) g2_ lfX13_52 rfl (by decide +kernel : decode cX13_tell 12 = .ok (.getfield 52, 3)) ?_
    rcases rv_if_e h with ⟨g3_, h⟩ | ⟨g3_, h⟩
    · refine re_icmp_ge_t (pc := 15) 36 (by decide +kernel : decode cX13_tell 15 = .ok (.if_icmp .ge 21, 3)) (by decide) g3_ ?_
      cases h
      exact re_vret (by decide +kernel : decode cX13_tell 36 = .ok (.return_, 1))
    · refine re_icmp_ge_f (pc := 15) 36 (by decide +kernel : decode cX13_tell 15 = .ok (.if_icmp .ge 21, 3)) (by decide) g3_ ?_
      refine re_aloadn (pc := 18) 0 (by decide +kernel : decode cX13_tell 18 = .ok (.aload_n 0, 1)) rfl ?_
      obtain ⟨a4_, g5_, h⟩ := rv_b_e h
      refine re_gR (pc := 19) g5_ lfX13_46 rfl (by decide +kernel : decode cX13_tell 19 = .ok (.getfield 46, 3)) ?_
      refine re_iloadn (pc := 22) 1 (by decide +kernel : decode cX13_tell 22 = .ok (.iload_n 1, 1)) rfl ?_
      refine re_aloadn (pc := 23) 0 (by decide +kernel : decode cX13_tell 23 = .ok (.aload_n 0, 1)) rfl ?_
      obtain ⟨a6_, g7_, h⟩ := rv_b_e h
      refine re_gR (pc := 24) g7_ lfX13_49 rfl (by decide +kernel : decode cX13_tell 24 = .ok (.getfield 49, 3)) ?_
      refine re_iloadn (pc := 27) 1 (by decide +kernel : decode cX13_tell 27 = .ok (.iload_n 1, 1)) rfl ?_
      obtain ⟨x8_, g9_, h⟩ := rv_b_e h
      refine re_aI (pc := 28) g9_ (by decide +kernel : decode cX13_tell 28 = .ok (.iaload, 1)) ?_
      obtain ⟨S10_, g11_, h⟩ := rv_b_e h
      refine re_uI (pc := 29) g11_ (by decide +kernel : decode cX13_tell 29 = .ok (.iastore, 1)) ?_
      obtain ⟨x12_, g13_, h⟩ := rv_lt_e h
      refine re_iinc (pc := 30) 1 x12_ (lv1 := [(1, .int x12_), (0, .ref a0)]) (by decide +kernel : decode cX13_tell 30 = .ok (.iinc 1 1, 3)) rfl g13_ (by decide) rfl ?_
      refine re_goto (pc := 33) 10 (by decide +kernel : decode cX13_tell 33 = .ok (.goto (-23), 3)) (by decide) ?_
      refine re_sub [1, 0] (lv1 := [(0, .ref a0), (1, .int x12_)]) rfl ?_
      exact ih S10_ a0 x12_ _ h
noncomputable def fnX13_tell (n : Nat) (S : rvS) (a0 : Nat) : Option rvS :=
  (rv_ck S 11 a0).bind fun u1_ =>
  (fnX13_coins n S a0).bind fun x4_ =>
  (rv_pI S 11 a0 28 x4_).bind fun S6_ =>
  cX13_tell_10 n n S6_ a0 (0 : Int32)
set_option maxRecDepth 20000 in
set_option maxHeartbeats 4000000 in
theorem eX13_tell_in (n : Nat) (S : rvS) (a0 : Nat) (S' : rvS) (h : fnX13_tell n S a0 = some S') : rv_Ev mX13_tell 1 0 [(0, .ref a0)] [] S none S' := by
  unfold fnX13_tell at h
  refine re_aloadn (pc := 0) 0 (by decide +kernel : decode cX13_tell 0 = .ok (.aload_n 0, 1)) rfl ?_
  refine re_aloadn (pc := 1) 0 (by decide +kernel : decode cX13_tell 1 = .ok (.aload_n 0, 1)) rfl ?_
  obtain ⟨u1_, g2_, h⟩ := rv_b_e h
  obtain ⟨x4_, g5_, h⟩ := rv_b_e h
  have m3_ := metX13_coins n S a0 _ g5_
  refine re_cV (pc := 2) [] m3_ (rv_okl.k ⟨rfl, rfl⟩) (rv_up.rf _ _) (by decide) (rv_ck_e g2_) ⟨by decide, rfl⟩ (Nat.le_of_ble_eq_true rfl) lVX13_258 rfl (by decide +kernel : decode cX13_tell 2 = .ok (.invokevirtual 258, 3)) ?_
  obtain ⟨S6_, g7_, h⟩ := rv_b_e h
  refine re_pI (pc := 5) g7_ lfX13_52 rfl rfl rfl rfl (by decide +kernel : decode cX13_tell 5 = .ok (.putfield 52, 3)) ?_
  refine re_iconst (pc := 8) (0 : Int32) (by decide +kernel : decode cX13_tell 8 = .ok (.iconst 0, 1)) (by decide) ?_
  refine re_istoren (pc := 9) (lv1 := [(1, .int (0 : Int32)), (0, .ref a0)]) (by decide +kernel : decode cX13_tell 9 = .ok (.istore_n 1, 1)) rfl (by decide) rfl ?_
  refine re_sub [1, 0] (lv1 := [(0, .ref a0), (1, .int (0 : Int32))]) rfl ?_
  exact eX13_tell_10 n n S6_ a0 (0 : Int32) _ h
theorem metX13_tell (n : Nat) (S : rvS) (a0 : Nat) (S' : rvS) (h : fnX13_tell n S a0 = some S') : rv_Met yX13_tell mX13_tell 1 [.ref a0] S none S' := rv_Met.of ⟨by decide +kernel, rfl, (fun z => by first | rfl | cases z), rfl⟩ (Nat.le_of_ble_eq_true rfl) rfl (eX13_tell_in n S a0 S' h)
noncomputable def fnX13_isSum (n : Nat) (S : rvS) (a0 : Nat) (x1 : Int32) : Option Int32 :=
  (fnX13_isIn n S x1 (1 : Int32) (999 : Int32)).bind fun x2_ =>
  (rv_bo x2_).bind fun b_ =>
  some b_
set_option maxRecDepth 20000 in
set_option maxHeartbeats 4000000 in
theorem eX13_isSum_in (n : Nat) (S : rvS) (a0 : Nat) (x1 : Int32) (r : Int32) (h : fnX13_isSum n S a0 x1 = some r) : rv_Ev mX13_isSum 1 0 [(0, .ref a0), (1, .int x1)] [] S (some (.int r)) S := by
  unfold fnX13_isSum at h
  refine re_iloadn (pc := 0) 1 (by decide +kernel : decode cX13_isSum 0 = .ok (.iload_n 1, 1)) rfl ?_
  refine re_iconst (pc := 1) (1 : Int32) (by decide +kernel : decode cX13_isSum 1 = .ok (.iconst 1, 1)) (by decide) ?_
  refine re_sipush (pc := 2) (999 : Int32) (by decide +kernel : decode cX13_isSum 2 = .ok (.sipush 999, 3)) (by decide) ?_
  obtain ⟨x2_, g3_, h⟩ := rv_b_e h
  have m1_ := metX13_isIn n S x1 (1 : Int32) (999 : Int32) _ g3_
  refine re_cS (pc := 5) [.int x1, .int (1 : Int32), .int (999 : Int32)] m1_ (rv_okl.k ⟨rfl, rfl⟩) (rv_up.rf _ _) (by decide) (Nat.le_of_ble_eq_true rfl) lSX13_170 rfl (by decide +kernel : decode cX13_isSum 5 = .ok (.invokestatic 170, 3)) ?_
  obtain ⟨b_, gb_, h⟩ := rv_b_e h
  obtain ⟨gb1_, gb2_⟩ := rv_bo_e gb_
  refine re_nI (pc := 8) gb1_ ?_
  cases h
  exact re_iret (fun ty hty => by cases hty; exact gb2_) (by decide +kernel : decode cX13_isSum 8 = .ok (.ireturn, 1))
theorem metX13_isSum (n : Nat) (S : rvS) (a0 : Nat) (x1 : Int32) (r : Int32) (h : fnX13_isSum n S a0 x1 = some r) : rv_Met yX13_isSum mX13_isSum 1 [.ref a0, .int x1] S (some (.int r)) S := rv_Met.of ⟨by decide +kernel, rfl, (fun z => by first | rfl | cases z), rfl⟩ (Nat.le_of_ble_eq_true rfl) rfl (eX13_isSum_in n S a0 x1 r h)
noncomputable def fnX13_exact (n : Nat) (S : rvS) (a0 : Nat) (x1 : Int32) (x2 : Int32) (x3 : Int32) : Option (Int32 × rvS) :=
  (rv_pI S 11 a0 0 (0 : Int32)).bind fun S1_ =>
  (rv_ck S1_ 11 a0).bind fun u3_ =>
  (fnX13_lay n S1_ a0).bind fun S6_ =>
  (rv_ck S6_ 11 a0).bind fun u9_ =>
  (fnX13_isWho n S6_ a0 x1).bind fun x12_ =>
  if x12_ = 0 then (
    some ((-2 : Int32), S6_))
  else (
    (rv_ck S6_ 11 a0).bind fun u15_ =>
    (fnX13_isWho n S6_ a0 x2).bind fun x18_ =>
    if x18_ = 0 then (
      some ((-2 : Int32), S6_))
    else (
      (rv_ck S6_ 11 a0).bind fun u21_ =>
      (fnX13_isSum n S6_ a0 x3).bind fun x24_ =>
      if x24_ = 0 then (
        some ((-2 : Int32), S6_))
      else (
        (rv_ck S6_ 11 a0).bind fun u27_ =>
        rv_bp (fnX13_exactOf n S6_ a0 x1 x2 x3) fun x30_ S31_ =>
        if x30_ < 0 then (
          some (x30_, S31_))
        else (
          (rv_ck S31_ 11 a0).bind fun u35_ =>
          (fnX13_tell n S31_ a0).bind fun S38_ =>
          some (x30_, S38_)))))
set_option maxRecDepth 20000 in
set_option maxHeartbeats 4000000 in
theorem eX13_exact_in (n : Nat) (S : rvS) (a0 : Nat) (x1 : Int32) (x2 : Int32) (x3 : Int32) (r : Int32) (S' : rvS) (h : fnX13_exact n S a0 x1 x2 x3 = some (r, S')) : rv_Ev mX13_exact 6 0 [(0, .ref a0), (1, .int x1), (2, .int x2), (3, .int x3)] [] S (some (.int r)) S' := by
  unfold fnX13_exact at h
  refine re_aloadn (pc := 0) 0 (by decide +kernel : decode cX13_exact 0 = .ok (.aload_n 0, 1)) rfl ?_
  refine re_iconst (pc := 1) (0 : Int32) (by decide +kernel : decode cX13_exact 1 = .ok (.iconst 0, 1)) (by decide) ?_
  obtain ⟨S1_, g2_, h⟩ := rv_b_e h
  refine re_pI (pc := 2) g2_ lfX13_99 rfl rfl rfl rfl (by decide +kernel : decode cX13_exact 2 = .ok (.putfield 99, 3)) ?_
  refine re_aloadn (pc := 5) 0 (by decide +kernel : decode cX13_exact 5 = .ok (.aload_n 0, 1)) rfl ?_
  obtain ⟨u3_, g4_, h⟩ := rv_b_e h
  obtain ⟨S6_, g7_, h⟩ := rv_b_e h
  have m5_ := metX13_lay n S1_ a0 _ g7_
  have z8_ : rv_same S1_ S6_ := m5_.sh rfl
  refine re_cV (pc := 6) [] m5_ (rv_okl.k z8_) (rv_up.sh z8_) (by decide) (rv_ck_e g4_) ⟨by decide, rfl⟩ (Nat.le_of_ble_eq_true rfl) lVX13_187 rfl (by decide +kernel : decode cX13_exact 6 = .ok (.invokevirtual 187, 3)) ?_
  refine re_aloadn (pc := 9) 0 (by decide +kernel : decode cX13_exact 9 = .ok (.aload_n 0, 1)) rfl ?_
  refine re_iloadn (pc := 10) 1 (by decide +kernel : decode cX13_exact 10 = .ok (.iload_n 1, 1)) rfl ?_
  obtain ⟨u9_, g10_, h⟩ := rv_b_e h
  obtain ⟨x12_, g13_, h⟩ := rv_b_e h
  have m11_ := metX13_isWho n S6_ a0 x1 _ g13_
  refine re_cV (pc := 11) [.int x1] m11_ (rv_okl.k ⟨rfl, rfl⟩) (rv_up.rf _ _) (by decide) (rv_ck_e g10_) ⟨by decide, rfl⟩ (Nat.le_of_ble_eq_true rfl) lVX13_265 rfl (by decide +kernel : decode cX13_exact 11 = .ok (.invokevirtual 265, 3)) ?_
  rcases rv_if_e h with ⟨g14_, h⟩ | ⟨g14_, h⟩
  · refine re_if_eq_t (pc := 14) 33 (by decide +kernel : decode cX13_exact 14 = .ok (.ifCond .eq 19, 3)) (by decide) g14_ ?_
    refine re_bipush (pc := 33) (-2 : Int32) (by decide +kernel : decode cX13_exact 33 = .ok (.bipush (-2), 2)) (by decide) ?_
    cases h
    exact re_iret (fun ty hty => by cases hty; rfl) (by decide +kernel : decode cX13_exact 35 = .ok (.ireturn, 1))
  · refine re_if_eq_f (pc := 14) 33 (by decide +kernel : decode cX13_exact 14 = .ok (.ifCond .eq 19, 3)) (by decide) g14_ ?_
    refine re_aloadn (pc := 17) 0 (by decide +kernel : decode cX13_exact 17 = .ok (.aload_n 0, 1)) rfl ?_
    refine re_iloadn (pc := 18) 2 (by decide +kernel : decode cX13_exact 18 = .ok (.iload_n 2, 1)) rfl ?_
    obtain ⟨u15_, g16_, h⟩ := rv_b_e h
    obtain ⟨x18_, g19_, h⟩ := rv_b_e h
    have m17_ := metX13_isWho n S6_ a0 x2 _ g19_
    refine re_cV (pc := 19) [.int x2] m17_ (rv_okl.k ⟨rfl, rfl⟩) (rv_up.rf _ _) (by decide) (rv_ck_e g16_) ⟨by decide, rfl⟩ (Nat.le_of_ble_eq_true rfl) lVX13_265 rfl (by decide +kernel : decode cX13_exact 19 = .ok (.invokevirtual 265, 3)) ?_
    rcases rv_if_e h with ⟨g20_, h⟩ | ⟨g20_, h⟩
    · refine re_if_eq_t (pc := 22) 33 (by decide +kernel : decode cX13_exact 22 = .ok (.ifCond .eq 11, 3)) (by decide) g20_ ?_
      refine re_bipush (pc := 33) (-2 : Int32) (by decide +kernel : decode cX13_exact 33 = .ok (.bipush (-2), 2)) (by decide) ?_
      cases h
      exact re_iret (fun ty hty => by cases hty; rfl) (by decide +kernel : decode cX13_exact 35 = .ok (.ireturn, 1))
    · refine re_if_eq_f (pc := 22) 33 (by decide +kernel : decode cX13_exact 22 = .ok (.ifCond .eq 11, 3)) (by decide) g20_ ?_
      refine re_aloadn (pc := 25) 0 (by decide +kernel : decode cX13_exact 25 = .ok (.aload_n 0, 1)) rfl ?_
      refine re_iloadn (pc := 26) 3 (by decide +kernel : decode cX13_exact 26 = .ok (.iload_n 3, 1)) rfl ?_
      obtain ⟨u21_, g22_, h⟩ := rv_b_e h
      obtain ⟨x24_, g25_, h⟩ := rv_b_e h
      have m23_ := metX13_isSum n S6_ a0 x3 _ g25_
      refine re_cV (pc := 27) [.int x3] m23_ (rv_okl.k ⟨rfl, rfl⟩) (rv_up.rf _ _) (by decide) (rv_ck_e g22_) ⟨by decide, rfl⟩ (Nat.le_of_ble_eq_true rfl) lVX13_316 rfl (by decide +kernel : decode cX13_exact 27 = .ok (.invokevirtual 316, 3)) ?_
      rcases rv_if_e h with ⟨g26_, h⟩ | ⟨g26_, h⟩
      · refine re_if_ne_f (pc := 30) 36 (by decide +kernel : decode cX13_exact 30 = .ok (.ifCond .ne 6, 3)) (by decide) g26_ ?_
        refine re_bipush (pc := 33) (-2 : Int32) (by decide +kernel : decode cX13_exact 33 = .ok (.bipush (-2), 2)) (by decide) ?_
        cases h
        exact re_iret (fun ty hty => by cases hty; rfl) (by decide +kernel : decode cX13_exact 35 = .ok (.ireturn, 1))
      · refine re_if_ne_t (pc := 30) 36 (by decide +kernel : decode cX13_exact 30 = .ok (.ifCond .ne 6, 3)) (by decide) g26_ ?_
        refine re_aloadn (pc := 36) 0 (by decide +kernel : decode cX13_exact 36 = .ok (.aload_n 0, 1)) rfl ?_
        refine re_iloadn (pc := 37) 1 (by decide +kernel : decode cX13_exact 37 = .ok (.iload_n 1, 1)) rfl ?_
        refine re_iloadn (pc := 38) 2 (by decide +kernel : decode cX13_exact 38 = .ok (.iload_n 2, 1)) rfl ?_
        refine re_iloadn (pc := 39) 3 (by decide +kernel : decode cX13_exact 39 = .ok (.iload_n 3, 1)) rfl ?_
        obtain ⟨u27_, g28_, h⟩ := rv_b_e h
        obtain ⟨x30_, S31_, g32_, h⟩ := rv_bp_e h
        have m29_ := metX13_exactOf n S6_ a0 x1 x2 x3 _ _ g32_
        have z33_ : rv_same S6_ S31_ := m29_.sh rfl
        refine re_cV (pc := 40) [.int x1, .int x2, .int x3] m29_ (rv_okl.k z33_) (rv_up.sh z33_) (by decide) (rv_ck_e g28_) ⟨by decide, rfl⟩ (Nat.le_of_ble_eq_true rfl) lVX13_319 rfl (by decide +kernel : decode cX13_exact 40 = .ok (.invokevirtual 319, 3)) ?_
        refine re_istore (pc := 43) (lv1 := [(4, .int x30_), (0, .ref a0), (1, .int x1), (2, .int x2), (3, .int x3)]) (by decide +kernel : decode cX13_exact 43 = .ok (.istore 4, 2)) (by decide) rfl ?_
        refine re_iload (pc := 45) 0 (by decide +kernel : decode cX13_exact 45 = .ok (.iload 4, 2)) rfl ?_
        rcases rv_if_e h with ⟨g34_, h⟩ | ⟨g34_, h⟩
        · refine re_if_lt_t (pc := 47) 54 (by decide +kernel : decode cX13_exact 47 = .ok (.ifCond .lt 7, 3)) (by decide) g34_ ?_
          refine re_iload (pc := 54) 0 (by decide +kernel : decode cX13_exact 54 = .ok (.iload 4, 2)) rfl ?_
          cases h
          exact re_iret (fun ty hty => by cases hty; rfl) (by decide +kernel : decode cX13_exact 56 = .ok (.ireturn, 1))
        · refine re_if_lt_f (pc := 47) 54 (by decide +kernel : decode cX13_exact 47 = .ok (.ifCond .lt 7, 3)) (by decide) g34_ ?_
          refine re_aloadn (pc := 50) 1 (by decide +kernel : decode cX13_exact 50 = .ok (.aload_n 0, 1)) rfl ?_
          obtain ⟨u35_, g36_, h⟩ := rv_b_e h
          obtain ⟨S38_, g39_, h⟩ := rv_b_e h
          have m37_ := metX13_tell n S31_ a0 _ g39_
          have z40_ : rv_same S31_ S38_ := m37_.sh rfl
          refine re_cV (pc := 51) [] m37_ (rv_okl.k z40_) (rv_up.sh z40_) (by decide) (rv_ck_e g36_) ⟨by decide, rfl⟩ (Nat.le_of_ble_eq_true rfl) lVX13_323 rfl (by decide +kernel : decode cX13_exact 51 = .ok (.invokevirtual 323, 3)) ?_
          refine re_iload (pc := 54) 0 (by decide +kernel : decode cX13_exact 54 = .ok (.iload 4, 2)) rfl ?_
          cases h
          exact re_iret (fun ty hty => by cases hty; rfl) (by decide +kernel : decode cX13_exact 56 = .ok (.ireturn, 1))
theorem metX13_exact (n : Nat) (S : rvS) (a0 : Nat) (x1 : Int32) (x2 : Int32) (x3 : Int32) (r : Int32) (S' : rvS) (h : fnX13_exact n S a0 x1 x2 x3 = some (r, S')) : rv_Met yX13_exact mX13_exact 6 [.ref a0, .int x1, .int x2, .int x3] S (some (.int r)) S' := rv_Met.of ⟨by decide +kernel, rfl, (fun z => by first | rfl | cases z), rfl⟩ (Nat.le_of_ble_eq_true rfl) rfl (eX13_exact_in n S a0 x1 x2 x3 r S' h)
noncomputable def fnX13_given (n : Nat) (S : rvS) (a0 : Nat) (x1 : Int32) : Option (Int32 × rvS) :=
  (rv_pI S 11 a0 0 (0 : Int32)).bind fun S1_ =>
  if x1 < 0 then (
    some ((-1 : Int32), S1_))
  else (
    (rv_gI S1_ 11 a0 28).bind fun x4_ =>
    if x4_ ≤ x1 then (
      some ((-1 : Int32), S1_))
    else (
      (rv_gR S1_ 11 a0 26).bind fun a7_ =>
      (rv_aI S1_ 0 a7_ x1).bind fun x9_ =>
      some (x9_, S1_)))
set_option maxRecDepth 20000 in
set_option maxHeartbeats 4000000 in
theorem eX13_given_in (n : Nat) (S : rvS) (a0 : Nat) (x1 : Int32) (r : Int32) (S' : rvS) (h : fnX13_given n S a0 x1 = some (r, S')) : rv_Ev mX13_given 0 0 [(0, .ref a0), (1, .int x1)] [] S (some (.int r)) S' := by
  unfold fnX13_given at h
  refine re_aloadn (pc := 0) 0 (by decide +kernel : decode cX13_given 0 = .ok (.aload_n 0, 1)) rfl ?_
  refine re_iconst (pc := 1) (0 : Int32) (by decide +kernel : decode cX13_given 1 = .ok (.iconst 0, 1)) (by decide) ?_
  obtain ⟨S1_, g2_, h⟩ := rv_b_e h
  refine re_pI (pc := 2) g2_ lfX13_99 rfl rfl rfl rfl (by decide +kernel : decode cX13_given 2 = .ok (.putfield 99, 3)) ?_
  refine re_iloadn (pc := 5) 1 (by decide +kernel : decode cX13_given 5 = .ok (.iload_n 1, 1)) rfl ?_
  rcases rv_if_e h with ⟨g3_, h⟩ | ⟨g3_, h⟩
  · refine re_if_lt_t (pc := 6) 26 (by decide +kernel : decode cX13_given 6 = .ok (.ifCond .lt 20, 3)) (by decide) g3_ ?_
    refine re_iconst (pc := 26) (-1 : Int32) (by decide +kernel : decode cX13_given 26 = .ok (.iconst (-1), 1)) (by decide) ?_
    cases h
    exact re_iret (fun ty hty => by cases hty; rfl) (by decide +kernel : decode cX13_given 27 = .ok (.ireturn, 1))
  · refine re_if_lt_f (pc := 6) 26 (by decide +kernel : decode cX13_given 6 = .ok (.ifCond .lt 20, 3)) (by decide) g3_ ?_
    refine re_iloadn (pc := 9) 1 (by decide +kernel : decode cX13_given 9 = .ok (.iload_n 1, 1)) rfl ?_
    refine re_aloadn (pc := 10) 0 (by decide +kernel : decode cX13_given 10 = .ok (.aload_n 0, 1)) rfl ?_
    obtain ⟨x4_, g5_, h⟩ := rv_b_e h
    refine re_gI (pc := 11) g5_ lfX13_52 rfl (by decide +kernel : decode cX13_given 11 = .ok (.getfield 52, 3)) ?_
    rcases rv_if_e h with ⟨g6_, h⟩ | ⟨g6_, h⟩
    · refine re_icmp_ge_t (pc := 14) 26 (by decide +kernel : decode cX13_given 14 = .ok (.if_icmp .ge 12, 3)) (by decide) g6_ ?_
      refine re_iconst (pc := 26) (-1 : Int32) (by decide +kernel : decode cX13_given 26 = .ok (.iconst (-1), 1)) (by decide) ?_
      cases h
      exact re_iret (fun ty hty => by cases hty; rfl) (by decide +kernel : decode cX13_given 27 = .ok (.ireturn, 1))
    · refine re_icmp_ge_f (pc := 14) 26 (by decide +kernel : decode cX13_given 14 = .ok (.if_icmp .ge 12, 3)) (by decide) g6_ ?_
      refine re_aloadn (pc := 17) 0 (by decide +kernel : decode cX13_given 17 = .ok (.aload_n 0, 1)) rfl ?_
      obtain ⟨a7_, g8_, h⟩ := rv_b_e h
      refine re_gR (pc := 18) g8_ lfX13_46 rfl (by decide +kernel : decode cX13_given 18 = .ok (.getfield 46, 3)) ?_
      refine re_iloadn (pc := 21) 1 (by decide +kernel : decode cX13_given 21 = .ok (.iload_n 1, 1)) rfl ?_
      obtain ⟨x9_, g10_, h⟩ := rv_b_e h
      refine re_aI (pc := 22) g10_ (by decide +kernel : decode cX13_given 22 = .ok (.iaload, 1)) ?_
      refine re_goto (pc := 23) 27 (by decide +kernel : decode cX13_given 23 = .ok (.goto 4, 3)) (by decide) ?_
      cases h
      exact re_iret (fun ty hty => by cases hty; rfl) (by decide +kernel : decode cX13_given 27 = .ok (.ireturn, 1))
theorem metX13_given (n : Nat) (S : rvS) (a0 : Nat) (x1 : Int32) (r : Int32) (S' : rvS) (h : fnX13_given n S a0 x1 = some (r, S')) : rv_Met yX13_given mX13_given 0 [.ref a0, .int x1] S (some (.int r)) S' := rv_Met.of ⟨by decide +kernel, rfl, (fun z => by first | rfl | cases z), rfl⟩ (Nat.le_of_ble_eq_true rfl) rfl (eX13_given_in n S a0 x1 r S' h)
noncomputable def cX13_giveAll_2 (n : Nat) : Nat → rvS → Nat → Int32 → Int32 → Option rvS
  | 0, _, _, _, _ => none
  | k + 1, S, a0, x1, x2 =>
    (rv_ck S 11 a0).bind fun u1_ =>
    (fnX13_coins n S a0).bind fun x4_ =>
    if x4_ ≤ x2 then (
      some S)
    else (
      (rv_gR S 11 a0 27).bind fun a7_ =>
      (rv_aI S 0 a7_ x2).bind fun x9_ =>
      if x9_ ≤ 0 then (
        rv_lt (x2 + (1)) fun x12_ =>
        cX13_giveAll_2 n k S a0 x1 x12_)
      else (
        (rv_ck S 11 a0).bind fun u14_ =>
        (fnX13_goes n S a0 x2 x1).bind fun S17_ =>
        rv_lt (x2 + (1)) fun x20_ =>
        cX13_giveAll_2 n k S17_ a0 x1 x20_))
set_option maxRecDepth 20000 in
set_option maxHeartbeats 4000000 in
theorem eX13_giveAll_2 (n : Nat) : ∀ (k : Nat) (S : rvS) (a0 : Nat) (x1 : Int32) (x2 : Int32) (S' : rvS), cX13_giveAll_2 n k S a0 x1 x2 = some S' → rv_Ev mX13_giveAll 3 2 [(0, .ref a0), (1, .int x1), (2, .int x2)] [] S none S' := by
  intro k
  induction k with
  | zero => intro S a0 x1 x2 S' h; exact absurd h (by simp [cX13_giveAll_2])
  | succ k ih =>
    intro S a0 x1 x2 S' h
    unfold cX13_giveAll_2 at h
    refine re_iloadn (pc := 2) 2 (by decide +kernel : decode cX13_giveAll 2 = .ok (.iload_n 2, 1)) rfl ?_
    refine re_aloadn (pc := 3) 0 (by decide +kernel : decode cX13_giveAll 3 = .ok (.aload_n 0, 1)) rfl ?_
    obtain ⟨u1_, g2_, h⟩ := rv_b_e h
    obtain ⟨x4_, g5_, h⟩ := rv_b_e h
    have m3_ := metX13_coins n S a0 _ g5_
    refine re_cV (pc := 4) [] m3_ (rv_okl.k ⟨rfl, rfl⟩) (rv_up.rf _ _) (by decide) (rv_ck_e g2_) ⟨by decide, rfl⟩ (Nat.le_of_ble_eq_true rfl) lVX13_258 rfl (by decide +kernel : decode cX13_giveAll 4 = .ok (.invokevirtual 258, 3)) ?_
    rcases rv_if_e h with ⟨g6_, h⟩ | ⟨g6_, h⟩
    · refine re_icmp_ge_t (pc := 7) 31 (by decide +kernel : decode cX13_giveAll 7 = .ok (.if_icmp .ge 24, 3)) (by decide) g6_ ?_
      cases h
      exact re_vret (by decide +kernel : decode cX13_giveAll 31 = .ok (.return_, 1))
    · refine re_icmp_ge_f (pc := 7) 31 (by decide +kernel : decode cX13_giveAll 7 = .ok (.if_icmp .ge 24, 3)) (by decide) g6_ ?_
      refine re_aloadn (pc := 10) 0 (by decide +kernel : decode cX13_giveAll 10 = .ok (.aload_n 0, 1)) rfl ?_
      obtain ⟨a7_, g8_, h⟩ := rv_b_e h
      refine re_gR (pc := 11) g8_ lfX13_49 rfl (by decide +kernel : decode cX13_giveAll 11 = .ok (.getfield 49, 3)) ?_
      refine re_iloadn (pc := 14) 2 (by decide +kernel : decode cX13_giveAll 14 = .ok (.iload_n 2, 1)) rfl ?_
      obtain ⟨x9_, g10_, h⟩ := rv_b_e h
      refine re_aI (pc := 15) g10_ (by decide +kernel : decode cX13_giveAll 15 = .ok (.iaload, 1)) ?_
      rcases rv_if_e h with ⟨g11_, h⟩ | ⟨g11_, h⟩
      · refine re_if_le_t (pc := 16) 25 (by decide +kernel : decode cX13_giveAll 16 = .ok (.ifCond .le 9, 3)) (by decide) g11_ ?_
        obtain ⟨x12_, g13_, h⟩ := rv_lt_e h
        refine re_iinc (pc := 25) 2 x12_ (lv1 := [(2, .int x12_), (0, .ref a0), (1, .int x1)]) (by decide +kernel : decode cX13_giveAll 25 = .ok (.iinc 2 1, 3)) rfl g13_ (by decide) rfl ?_
        refine re_goto (pc := 28) 2 (by decide +kernel : decode cX13_giveAll 28 = .ok (.goto (-26), 3)) (by decide) ?_
        refine re_sub [1, 2, 0] (lv1 := [(0, .ref a0), (1, .int x1), (2, .int x12_)]) rfl ?_
        exact ih S a0 x1 x12_ _ h
      · refine re_if_le_f (pc := 16) 25 (by decide +kernel : decode cX13_giveAll 16 = .ok (.ifCond .le 9, 3)) (by decide) g11_ ?_
        refine re_aloadn (pc := 19) 0 (by decide +kernel : decode cX13_giveAll 19 = .ok (.aload_n 0, 1)) rfl ?_
        refine re_iloadn (pc := 20) 2 (by decide +kernel : decode cX13_giveAll 20 = .ok (.iload_n 2, 1)) rfl ?_
        refine re_iloadn (pc := 21) 1 (by decide +kernel : decode cX13_giveAll 21 = .ok (.iload_n 1, 1)) rfl ?_
        obtain ⟨u14_, g15_, h⟩ := rv_b_e h
        obtain ⟨S17_, g18_, h⟩ := rv_b_e h
        have m16_ := metX13_goes n S a0 x2 x1 _ g18_
        have z19_ : rv_same S S17_ := m16_.sh rfl
        refine re_cV (pc := 22) [.int x2, .int x1] m16_ (rv_okl.k z19_) (rv_up.sh z19_) (by decide) (rv_ck_e g15_) ⟨by decide, rfl⟩ (Nat.le_of_ble_eq_true rfl) lVX13_309 rfl (by decide +kernel : decode cX13_giveAll 22 = .ok (.invokevirtual 309, 3)) ?_
        obtain ⟨x20_, g21_, h⟩ := rv_lt_e h
        refine re_iinc (pc := 25) 2 x20_ (lv1 := [(2, .int x20_), (0, .ref a0), (1, .int x1)]) (by decide +kernel : decode cX13_giveAll 25 = .ok (.iinc 2 1, 3)) rfl g21_ (by decide) rfl ?_
        refine re_goto (pc := 28) 2 (by decide +kernel : decode cX13_giveAll 28 = .ok (.goto (-26), 3)) (by decide) ?_
        refine re_sub [1, 2, 0] (lv1 := [(0, .ref a0), (1, .int x1), (2, .int x20_)]) rfl ?_
        exact ih S17_ a0 x1 x20_ _ h
noncomputable def fnX13_giveAll (n : Nat) (S : rvS) (a0 : Nat) (x1 : Int32) : Option rvS :=
  cX13_giveAll_2 n n S a0 x1 (0 : Int32)
set_option maxRecDepth 20000 in
set_option maxHeartbeats 4000000 in
theorem eX13_giveAll_in (n : Nat) (S : rvS) (a0 : Nat) (x1 : Int32) (S' : rvS) (h : fnX13_giveAll n S a0 x1 = some S') : rv_Ev mX13_giveAll 3 0 [(0, .ref a0), (1, .int x1)] [] S none S' := by
  unfold fnX13_giveAll at h
  refine re_iconst (pc := 0) (0 : Int32) (by decide +kernel : decode cX13_giveAll 0 = .ok (.iconst 0, 1)) (by decide) ?_
  refine re_istoren (pc := 1) (lv1 := [(2, .int (0 : Int32)), (0, .ref a0), (1, .int x1)]) (by decide +kernel : decode cX13_giveAll 1 = .ok (.istore_n 2, 1)) rfl (by decide) rfl ?_
  refine re_sub [1, 2, 0] (lv1 := [(0, .ref a0), (1, .int x1), (2, .int (0 : Int32))]) rfl ?_
  exact eX13_giveAll_2 n n S a0 x1 (0 : Int32) _ h
theorem metX13_giveAll (n : Nat) (S : rvS) (a0 : Nat) (x1 : Int32) (S' : rvS) (h : fnX13_giveAll n S a0 x1 = some S') : rv_Met yX13_giveAll mX13_giveAll 3 [.ref a0, .int x1] S none S' := rv_Met.of ⟨by decide +kernel, rfl, (fun z => by first | rfl | cases z), rfl⟩ (Nat.le_of_ble_eq_true rfl) rfl (eX13_giveAll_in n S a0 x1 S' h)
noncomputable def fnX13_settle (n : Nat) (S : rvS) (a0 : Nat) (x1 : Int32) (x2 : Int32) (x3 : Int32) : Option (Int32 × rvS) :=
  (rv_ck S 11 a0).bind fun u1_ =>
  rv_bp (fnX13_exact n S a0 x1 x2 x3) fun x4_ S5_ =>
  if x4_ < 0 then (
    some (x4_, S5_))
  else (
    (rv_ck S5_ 11 a0).bind fun u9_ =>
    (fnX13_giveAll n S5_ a0 x2).bind fun S12_ =>
    some (x4_, S12_))
set_option maxRecDepth 20000 in
set_option maxHeartbeats 4000000 in
theorem eX13_settle_in (n : Nat) (S : rvS) (a0 : Nat) (x1 : Int32) (x2 : Int32) (x3 : Int32) (r : Int32) (S' : rvS) (h : fnX13_settle n S a0 x1 x2 x3 = some (r, S')) : rv_Ev mX13_settle 7 0 [(0, .ref a0), (1, .int x1), (2, .int x2), (3, .int x3)] [] S (some (.int r)) S' := by
  unfold fnX13_settle at h
  refine re_aloadn (pc := 0) 0 (by decide +kernel : decode cX13_settle 0 = .ok (.aload_n 0, 1)) rfl ?_
  refine re_iloadn (pc := 1) 1 (by decide +kernel : decode cX13_settle 1 = .ok (.iload_n 1, 1)) rfl ?_
  refine re_iloadn (pc := 2) 2 (by decide +kernel : decode cX13_settle 2 = .ok (.iload_n 2, 1)) rfl ?_
  refine re_iloadn (pc := 3) 3 (by decide +kernel : decode cX13_settle 3 = .ok (.iload_n 3, 1)) rfl ?_
  obtain ⟨u1_, g2_, h⟩ := rv_b_e h
  obtain ⟨x4_, S5_, g6_, h⟩ := rv_bp_e h
  have m3_ := metX13_exact n S a0 x1 x2 x3 _ _ g6_
  have z7_ : rv_same S S5_ := m3_.sh rfl
  refine re_cV (pc := 4) [.int x1, .int x2, .int x3] m3_ (rv_okl.k z7_) (rv_up.sh z7_) (by decide) (rv_ck_e g2_) ⟨by decide, rfl⟩ (Nat.le_of_ble_eq_true rfl) lVX13_326 rfl (by decide +kernel : decode cX13_settle 4 = .ok (.invokevirtual 326, 3)) ?_
  refine re_istore (pc := 7) (lv1 := [(4, .int x4_), (0, .ref a0), (1, .int x1), (2, .int x2), (3, .int x3)]) (by decide +kernel : decode cX13_settle 7 = .ok (.istore 4, 2)) (by decide) rfl ?_
  refine re_iload (pc := 9) 0 (by decide +kernel : decode cX13_settle 9 = .ok (.iload 4, 2)) rfl ?_
  rcases rv_if_e h with ⟨g8_, h⟩ | ⟨g8_, h⟩
  · refine re_if_lt_t (pc := 11) 19 (by decide +kernel : decode cX13_settle 11 = .ok (.ifCond .lt 8, 3)) (by decide) g8_ ?_
    refine re_iload (pc := 19) 0 (by decide +kernel : decode cX13_settle 19 = .ok (.iload 4, 2)) rfl ?_
    cases h
    exact re_iret (fun ty hty => by cases hty; rfl) (by decide +kernel : decode cX13_settle 21 = .ok (.ireturn, 1))
  · refine re_if_lt_f (pc := 11) 19 (by decide +kernel : decode cX13_settle 11 = .ok (.ifCond .lt 8, 3)) (by decide) g8_ ?_
    refine re_aloadn (pc := 14) 1 (by decide +kernel : decode cX13_settle 14 = .ok (.aload_n 0, 1)) rfl ?_
    refine re_iloadn (pc := 15) 3 (by decide +kernel : decode cX13_settle 15 = .ok (.iload_n 2, 1)) rfl ?_
    obtain ⟨u9_, g10_, h⟩ := rv_b_e h
    obtain ⟨S12_, g13_, h⟩ := rv_b_e h
    have m11_ := metX13_giveAll n S5_ a0 x2 _ g13_
    have z14_ : rv_same S5_ S12_ := m11_.sh rfl
    refine re_cV (pc := 16) [.int x2] m11_ (rv_okl.k z14_) (rv_up.sh z14_) (by decide) (rv_ck_e g10_) ⟨by decide, rfl⟩ (Nat.le_of_ble_eq_true rfl) lVX13_329 rfl (by decide +kernel : decode cX13_settle 16 = .ok (.invokevirtual 329, 3)) ?_
    refine re_iload (pc := 19) 0 (by decide +kernel : decode cX13_settle 19 = .ok (.iload 4, 2)) rfl ?_
    cases h
    exact re_iret (fun ty hty => by cases hty; rfl) (by decide +kernel : decode cX13_settle 21 = .ok (.ireturn, 1))
theorem metX13_settle (n : Nat) (S : rvS) (a0 : Nat) (x1 : Int32) (x2 : Int32) (x3 : Int32) (r : Int32) (S' : rvS) (h : fnX13_settle n S a0 x1 x2 x3 = some (r, S')) : rv_Met yX13_settle mX13_settle 7 [.ref a0, .int x1, .int x2, .int x3] S (some (.int r)) S' := rv_Met.of ⟨by decide +kernel, rfl, (fun z => by first | rfl | cases z), rfl⟩ (Nat.le_of_ble_eq_true rfl) rfl (eX13_settle_in n S a0 x1 x2 x3 r S' h)
noncomputable def cX13_most_32 (n : Nat) : Nat → rvS → Nat → Int32 → Int32 → Int32 → Int32 → Option (Int32 × rvS)
  | 0, _, _, _, _, _, _ => none
  | k + 1, S, a0, x1, x2, x3, x4 =>
    (rv_ck S 11 a0).bind fun u1_ =>
    (fnX13_coins n S a0).bind fun x4_ =>
    if x4_ ≤ x4 then (
      some (x3, S))
    else (
      (rv_ck S 11 a0).bind fun u7_ =>
      rv_bp (fnX13_isFor n S a0 x4 x1 x2) fun x10_ S11_ =>
      if x10_ = 0 then (
        rv_lt (x4 + (1)) fun x15_ =>
        cX13_most_32 n k S11_ a0 x1 x2 x3 x15_)
      else (
        (rv_ck S11_ 11 a0).bind fun u17_ =>
        (fnX13_ofCoin n S11_ a0 x4 (0 : Int32)).bind fun x20_ =>
        rv_lt (x3 + x20_) fun x22_ =>
        rv_lt (x4 + (1)) fun x24_ =>
        cX13_most_32 n k S11_ a0 x1 x2 x22_ x24_))
set_option maxRecDepth 20000 in
set_option maxHeartbeats 4000000 in
theorem eX13_most_32 (n : Nat) : ∀ (k : Nat) (S : rvS) (a0 : Nat) (x1 : Int32) (x2 : Int32) (x3 : Int32) (x4 : Int32) (r : Int32) (S' : rvS), cX13_most_32 n k S a0 x1 x2 x3 x4 = some (r, S') → rv_Ev mX13_most 5 32 [(0, .ref a0), (1, .int x1), (2, .int x2), (3, .int x3), (4, .int x4)] [] S (some (.int r)) S' := by
  intro k
  induction k with
  | zero => intro S a0 x1 x2 x3 x4 r S' h; exact absurd h (by simp [cX13_most_32])
  | succ k ih =>
    intro S a0 x1 x2 x3 x4 r S' h
    unfold cX13_most_32 at h
    refine re_iload (pc := 32) 4 (by decide +kernel : decode cX13_most 32 = .ok (.iload 4, 2)) rfl ?_
    refine re_aloadn (pc := 34) 0 (by decide +kernel : decode cX13_most 34 = .ok (.aload_n 0, 1)) rfl ?_
    obtain ⟨u1_, g2_, h⟩ := rv_b_e h
    obtain ⟨x4_, g5_, h⟩ := rv_b_e h
    have m3_ := metX13_coins n S a0 _ g5_
    refine re_cV (pc := 35) [] m3_ (rv_okl.k ⟨rfl, rfl⟩) (rv_up.rf _ _) (by decide) (rv_ck_e g2_) ⟨by decide, rfl⟩ (Nat.le_of_ble_eq_true rfl) lVX13_258 rfl (by decide +kernel : decode cX13_most 35 = .ok (.invokevirtual 258, 3)) ?_
    rcases rv_if_e h with ⟨g6_, h⟩ | ⟨g6_, h⟩
    · refine re_icmp_ge_t (pc := 38) 68 (by decide +kernel : decode cX13_most 38 = .ok (.if_icmp .ge 30, 3)) (by decide) g6_ ?_
      refine re_iloadn (pc := 68) 3 (by decide +kernel : decode cX13_most 68 = .ok (.iload_n 3, 1)) rfl ?_
      cases h
      exact re_iret (fun ty hty => by cases hty; rfl) (by decide +kernel : decode cX13_most 69 = .ok (.ireturn, 1))
    · refine re_icmp_ge_f (pc := 38) 68 (by decide +kernel : decode cX13_most 38 = .ok (.if_icmp .ge 30, 3)) (by decide) g6_ ?_
      refine re_aloadn (pc := 41) 0 (by decide +kernel : decode cX13_most 41 = .ok (.aload_n 0, 1)) rfl ?_
      refine re_iload (pc := 42) 4 (by decide +kernel : decode cX13_most 42 = .ok (.iload 4, 2)) rfl ?_
      refine re_iloadn (pc := 44) 1 (by decide +kernel : decode cX13_most 44 = .ok (.iload_n 1, 1)) rfl ?_
      refine re_iloadn (pc := 45) 2 (by decide +kernel : decode cX13_most 45 = .ok (.iload_n 2, 1)) rfl ?_
      obtain ⟨u7_, g8_, h⟩ := rv_b_e h
      obtain ⟨x10_, S11_, g12_, h⟩ := rv_bp_e h
      have m9_ := metX13_isFor n S a0 x4 x1 x2 _ _ g12_
      have z13_ : rv_same S S11_ := m9_.sh rfl
      refine re_cV (pc := 46) [.int x4, .int x1, .int x2] m9_ (rv_okl.k z13_) (rv_up.sh z13_) (by decide) (rv_ck_e g8_) ⟨by decide, rfl⟩ (Nat.le_of_ble_eq_true rfl) lVX13_313 rfl (by decide +kernel : decode cX13_most 46 = .ok (.invokevirtual 313, 3)) ?_
      rcases rv_if_e h with ⟨g14_, h⟩ | ⟨g14_, h⟩
      · refine re_if_eq_t (pc := 49) 62 (by decide +kernel : decode cX13_most 49 = .ok (.ifCond .eq 13, 3)) (by decide) g14_ ?_
        obtain ⟨x15_, g16_, h⟩ := rv_lt_e h
        refine re_iinc (pc := 62) 4 x15_ (lv1 := [(4, .int x15_), (0, .ref a0), (1, .int x1), (2, .int x2), (3, .int x3)]) (by decide +kernel : decode cX13_most 62 = .ok (.iinc 4 1, 3)) rfl g16_ (by decide) rfl ?_
        refine re_goto (pc := 65) 32 (by decide +kernel : decode cX13_most 65 = .ok (.goto (-33), 3)) (by decide) ?_
        refine re_sub [1, 2, 3, 4, 0] (lv1 := [(0, .ref a0), (1, .int x1), (2, .int x2), (3, .int x3), (4, .int x15_)]) rfl ?_
        exact ih S11_ a0 x1 x2 x3 x15_ _ _ h
      · refine re_if_eq_f (pc := 49) 62 (by decide +kernel : decode cX13_most 49 = .ok (.ifCond .eq 13, 3)) (by decide) g14_ ?_
        refine re_iloadn (pc := 52) 3 (by decide +kernel : decode cX13_most 52 = .ok (.iload_n 3, 1)) rfl ?_
        refine re_aloadn (pc := 53) 0 (by decide +kernel : decode cX13_most 53 = .ok (.aload_n 0, 1)) rfl ?_
        refine re_iload (pc := 54) 4 (by decide +kernel : decode cX13_most 54 = .ok (.iload 4, 2)) rfl ?_
        refine re_iconst (pc := 56) (0 : Int32) (by decide +kernel : decode cX13_most 56 = .ok (.iconst 0, 1)) (by decide) ?_
        obtain ⟨u17_, g18_, h⟩ := rv_b_e h
        obtain ⟨x20_, g21_, h⟩ := rv_b_e h
        have m19_ := metX13_ofCoin n S11_ a0 x4 (0 : Int32) _ g21_
        refine re_cV (pc := 57) [.int x4, .int (0 : Int32)] m19_ (rv_okl.k ⟨rfl, rfl⟩) (rv_up.rf _ _) (by decide) (rv_ck_e g18_) ⟨by decide, rfl⟩ (Nat.le_of_ble_eq_true rfl) lVX13_271 rfl (by decide +kernel : decode cX13_most 57 = .ok (.invokevirtual 271, 3)) ?_
        refine re_iadd (pc := 60) (by decide +kernel : decode cX13_most 60 = .ok (.iadd, 1)) ?_
        obtain ⟨x22_, g23_, h⟩ := rv_lt_e h
        refine re_nI (pc := 61) g23_ ?_
        refine re_istoren (pc := 61) (lv1 := [(3, .int x22_), (0, .ref a0), (1, .int x1), (2, .int x2), (4, .int x4)]) (by decide +kernel : decode cX13_most 61 = .ok (.istore_n 3, 1)) rfl (by decide) rfl ?_
        obtain ⟨x24_, g25_, h⟩ := rv_lt_e h
        refine re_iinc (pc := 62) 4 x24_ (lv1 := [(4, .int x24_), (3, .int x22_), (0, .ref a0), (1, .int x1), (2, .int x2)]) (by decide +kernel : decode cX13_most 62 = .ok (.iinc 4 1, 3)) rfl g25_ (by decide) rfl ?_
        refine re_goto (pc := 65) 32 (by decide +kernel : decode cX13_most 65 = .ok (.goto (-33), 3)) (by decide) ?_
        refine re_sub [2, 3, 4, 1, 0] (lv1 := [(0, .ref a0), (1, .int x1), (2, .int x2), (3, .int x22_), (4, .int x24_)]) rfl ?_
        exact ih S11_ a0 x1 x2 x22_ x24_ _ _ h
noncomputable def fnX13_most (n : Nat) (S : rvS) (a0 : Nat) (x1 : Int32) (x2 : Int32) : Option (Int32 × rvS) :=
  (rv_pI S 11 a0 0 (0 : Int32)).bind fun S1_ =>
  (rv_ck S1_ 11 a0).bind fun u3_ =>
  (fnX13_lay n S1_ a0).bind fun S6_ =>
  (rv_ck S6_ 11 a0).bind fun u9_ =>
  (fnX13_isWho n S6_ a0 x1).bind fun x12_ =>
  if x12_ = 0 then (
    some ((-1 : Int32), S6_))
  else (
    (rv_ck S6_ 11 a0).bind fun u15_ =>
    (fnX13_isWho n S6_ a0 x2).bind fun x18_ =>
    if x18_ = 0 then (
      some ((-1 : Int32), S6_))
    else (
      cX13_most_32 n n S6_ a0 x1 x2 (0 : Int32) (0 : Int32)))
set_option maxRecDepth 20000 in
set_option maxHeartbeats 4000000 in
theorem eX13_most_in (n : Nat) (S : rvS) (a0 : Nat) (x1 : Int32) (x2 : Int32) (r : Int32) (S' : rvS) (h : fnX13_most n S a0 x1 x2 = some (r, S')) : rv_Ev mX13_most 5 0 [(0, .ref a0), (1, .int x1), (2, .int x2)] [] S (some (.int r)) S' := by
  unfold fnX13_most at h
  refine re_aloadn (pc := 0) 0 (by decide +kernel : decode cX13_most 0 = .ok (.aload_n 0, 1)) rfl ?_
  refine re_iconst (pc := 1) (0 : Int32) (by decide +kernel : decode cX13_most 1 = .ok (.iconst 0, 1)) (by decide) ?_
  obtain ⟨S1_, g2_, h⟩ := rv_b_e h
  refine re_pI (pc := 2) g2_ lfX13_99 rfl rfl rfl rfl (by decide +kernel : decode cX13_most 2 = .ok (.putfield 99, 3)) ?_
  refine re_aloadn (pc := 5) 0 (by decide +kernel : decode cX13_most 5 = .ok (.aload_n 0, 1)) rfl ?_
  obtain ⟨u3_, g4_, h⟩ := rv_b_e h
  obtain ⟨S6_, g7_, h⟩ := rv_b_e h
  have m5_ := metX13_lay n S1_ a0 _ g7_
  have z8_ : rv_same S1_ S6_ := m5_.sh rfl
  refine re_cV (pc := 6) [] m5_ (rv_okl.k z8_) (rv_up.sh z8_) (by decide) (rv_ck_e g4_) ⟨by decide, rfl⟩ (Nat.le_of_ble_eq_true rfl) lVX13_187 rfl (by decide +kernel : decode cX13_most 6 = .ok (.invokevirtual 187, 3)) ?_
  refine re_aloadn (pc := 9) 0 (by decide +kernel : decode cX13_most 9 = .ok (.aload_n 0, 1)) rfl ?_
  refine re_iloadn (pc := 10) 1 (by decide +kernel : decode cX13_most 10 = .ok (.iload_n 1, 1)) rfl ?_
  obtain ⟨u9_, g10_, h⟩ := rv_b_e h
  obtain ⟨x12_, g13_, h⟩ := rv_b_e h
  have m11_ := metX13_isWho n S6_ a0 x1 _ g13_
  refine re_cV (pc := 11) [.int x1] m11_ (rv_okl.k ⟨rfl, rfl⟩) (rv_up.rf _ _) (by decide) (rv_ck_e g10_) ⟨by decide, rfl⟩ (Nat.le_of_ble_eq_true rfl) lVX13_265 rfl (by decide +kernel : decode cX13_most 11 = .ok (.invokevirtual 265, 3)) ?_
  rcases rv_if_e h with ⟨g14_, h⟩ | ⟨g14_, h⟩
  · refine re_if_eq_t (pc := 14) 25 (by decide +kernel : decode cX13_most 14 = .ok (.ifCond .eq 11, 3)) (by decide) g14_ ?_
    refine re_iconst (pc := 25) (-1 : Int32) (by decide +kernel : decode cX13_most 25 = .ok (.iconst (-1), 1)) (by decide) ?_
    cases h
    exact re_iret (fun ty hty => by cases hty; rfl) (by decide +kernel : decode cX13_most 26 = .ok (.ireturn, 1))
  · refine re_if_eq_f (pc := 14) 25 (by decide +kernel : decode cX13_most 14 = .ok (.ifCond .eq 11, 3)) (by decide) g14_ ?_
    refine re_aloadn (pc := 17) 0 (by decide +kernel : decode cX13_most 17 = .ok (.aload_n 0, 1)) rfl ?_
    refine re_iloadn (pc := 18) 2 (by decide +kernel : decode cX13_most 18 = .ok (.iload_n 2, 1)) rfl ?_
    obtain ⟨u15_, g16_, h⟩ := rv_b_e h
    obtain ⟨x18_, g19_, h⟩ := rv_b_e h
    have m17_ := metX13_isWho n S6_ a0 x2 _ g19_
    refine re_cV (pc := 19) [.int x2] m17_ (rv_okl.k ⟨rfl, rfl⟩) (rv_up.rf _ _) (by decide) (rv_ck_e g16_) ⟨by decide, rfl⟩ (Nat.le_of_ble_eq_true rfl) lVX13_265 rfl (by decide +kernel : decode cX13_most 19 = .ok (.invokevirtual 265, 3)) ?_
    rcases rv_if_e h with ⟨g20_, h⟩ | ⟨g20_, h⟩
    · refine re_if_ne_f (pc := 22) 27 (by decide +kernel : decode cX13_most 22 = .ok (.ifCond .ne 5, 3)) (by decide) g20_ ?_
      refine re_iconst (pc := 25) (-1 : Int32) (by decide +kernel : decode cX13_most 25 = .ok (.iconst (-1), 1)) (by decide) ?_
      cases h
      exact re_iret (fun ty hty => by cases hty; rfl) (by decide +kernel : decode cX13_most 26 = .ok (.ireturn, 1))
    · refine re_if_ne_t (pc := 22) 27 (by decide +kernel : decode cX13_most 22 = .ok (.ifCond .ne 5, 3)) (by decide) g20_ ?_
      refine re_iconst (pc := 27) (0 : Int32) (by decide +kernel : decode cX13_most 27 = .ok (.iconst 0, 1)) (by decide) ?_
      refine re_istoren (pc := 28) (lv1 := [(3, .int (0 : Int32)), (0, .ref a0), (1, .int x1), (2, .int x2)]) (by decide +kernel : decode cX13_most 28 = .ok (.istore_n 3, 1)) rfl (by decide) rfl ?_
      refine re_iconst (pc := 29) (0 : Int32) (by decide +kernel : decode cX13_most 29 = .ok (.iconst 0, 1)) (by decide) ?_
      refine re_istore (pc := 30) (lv1 := [(4, .int (0 : Int32)), (3, .int (0 : Int32)), (0, .ref a0), (1, .int x1), (2, .int x2)]) (by decide +kernel : decode cX13_most 30 = .ok (.istore 4, 2)) (by decide) rfl ?_
      refine re_sub [2, 3, 4, 1, 0] (lv1 := [(0, .ref a0), (1, .int x1), (2, .int x2), (3, .int (0 : Int32)), (4, .int (0 : Int32))]) rfl ?_
      exact eX13_most_32 n n S6_ a0 x1 x2 (0 : Int32) (0 : Int32) _ _ h
theorem metX13_most (n : Nat) (S : rvS) (a0 : Nat) (x1 : Int32) (x2 : Int32) (r : Int32) (S' : rvS) (h : fnX13_most n S a0 x1 x2 = some (r, S')) : rv_Met yX13_most mX13_most 5 [.ref a0, .int x1, .int x2] S (some (.int r)) S' := rv_Met.of ⟨by decide +kernel, rfl, (fun z => by first | rfl | cases z), rfl⟩ (Nat.le_of_ble_eq_true rfl) rfl (eX13_most_in n S a0 x1 x2 r S' h)
noncomputable def cX13_payable_32 (n : Nat) : Nat → rvS → Nat → Int32 → Int32 → Int32 → Int32 → Option (Int32 × rvS)
  | 0, _, _, _, _, _, _ => none
  | k + 1, S, a0, x1, x2, x3, x4 =>
    (rv_ck S 11 a0).bind fun u1_ =>
    (fnX13_whos n S a0).bind fun x4_ =>
    if x4_ ≤ x4 then (
      some (x3, S))
    else (
      (rv_ck S 11 a0).bind fun u7_ =>
      rv_bp (fnX13_exactOf n S a0 x1 x4 x2) fun x10_ S11_ =>
      if x10_ < 0 then (
        rv_lt (x4 + (1)) fun x15_ =>
        cX13_payable_32 n k S11_ a0 x1 x2 x3 x15_)
      else (
        rv_lt (x3 ||| ((1 : Int32) <<< (x4 &&& 31))) fun x17_ =>
        rv_lt (x4 + (1)) fun x19_ =>
        cX13_payable_32 n k S11_ a0 x1 x2 x17_ x19_))
set_option maxRecDepth 20000 in
set_option maxHeartbeats 4000000 in
theorem eX13_payable_32 (n : Nat) : ∀ (k : Nat) (S : rvS) (a0 : Nat) (x1 : Int32) (x2 : Int32) (x3 : Int32) (x4 : Int32) (r : Int32) (S' : rvS), cX13_payable_32 n k S a0 x1 x2 x3 x4 = some (r, S') → rv_Ev mX13_payable 6 32 [(0, .ref a0), (1, .int x1), (2, .int x2), (3, .int x3), (4, .int x4)] [] S (some (.int r)) S' := by
  intro k
  induction k with
  | zero => intro S a0 x1 x2 x3 x4 r S' h; exact absurd h (by simp [cX13_payable_32])
  | succ k ih =>
    intro S a0 x1 x2 x3 x4 r S' h
    unfold cX13_payable_32 at h
    refine re_iload (pc := 32) 4 (by decide +kernel : decode cX13_payable 32 = .ok (.iload 4, 2)) rfl ?_
    refine re_aloadn (pc := 34) 0 (by decide +kernel : decode cX13_payable 34 = .ok (.aload_n 0, 1)) rfl ?_
    obtain ⟨u1_, g2_, h⟩ := rv_b_e h
    obtain ⟨x4_, g5_, h⟩ := rv_b_e h
    have m3_ := metX13_whos n S a0 _ g5_
    refine re_cV (pc := 35) [] m3_ (rv_okl.k ⟨rfl, rfl⟩) (rv_up.rf _ _) (by decide) (rv_ck_e g2_) ⟨by decide, rfl⟩ (Nat.le_of_ble_eq_true rfl) lVX13_255 rfl (by decide +kernel : decode cX13_payable 35 = .ok (.invokevirtual 255, 3)) ?_
    rcases rv_if_e h with ⟨g6_, h⟩ | ⟨g6_, h⟩
    · refine re_icmp_ge_t (pc := 38) 65 (by decide +kernel : decode cX13_payable 38 = .ok (.if_icmp .ge 27, 3)) (by decide) g6_ ?_
      refine re_iloadn (pc := 65) 3 (by decide +kernel : decode cX13_payable 65 = .ok (.iload_n 3, 1)) rfl ?_
      cases h
      exact re_iret (fun ty hty => by cases hty; rfl) (by decide +kernel : decode cX13_payable 66 = .ok (.ireturn, 1))
    · refine re_icmp_ge_f (pc := 38) 65 (by decide +kernel : decode cX13_payable 38 = .ok (.if_icmp .ge 27, 3)) (by decide) g6_ ?_
      refine re_aloadn (pc := 41) 0 (by decide +kernel : decode cX13_payable 41 = .ok (.aload_n 0, 1)) rfl ?_
      refine re_iloadn (pc := 42) 1 (by decide +kernel : decode cX13_payable 42 = .ok (.iload_n 1, 1)) rfl ?_
      refine re_iload (pc := 43) 4 (by decide +kernel : decode cX13_payable 43 = .ok (.iload 4, 2)) rfl ?_
      refine re_iloadn (pc := 45) 2 (by decide +kernel : decode cX13_payable 45 = .ok (.iload_n 2, 1)) rfl ?_
      obtain ⟨u7_, g8_, h⟩ := rv_b_e h
      obtain ⟨x10_, S11_, g12_, h⟩ := rv_bp_e h
      have m9_ := metX13_exactOf n S a0 x1 x4 x2 _ _ g12_
      have z13_ : rv_same S S11_ := m9_.sh rfl
      refine re_cV (pc := 46) [.int x1, .int x4, .int x2] m9_ (rv_okl.k z13_) (rv_up.sh z13_) (by decide) (rv_ck_e g8_) ⟨by decide, rfl⟩ (Nat.le_of_ble_eq_true rfl) lVX13_319 rfl (by decide +kernel : decode cX13_payable 46 = .ok (.invokevirtual 319, 3)) ?_
      rcases rv_if_e h with ⟨g14_, h⟩ | ⟨g14_, h⟩
      · refine re_if_lt_t (pc := 49) 59 (by decide +kernel : decode cX13_payable 49 = .ok (.ifCond .lt 10, 3)) (by decide) g14_ ?_
        obtain ⟨x15_, g16_, h⟩ := rv_lt_e h
        refine re_iinc (pc := 59) 4 x15_ (lv1 := [(4, .int x15_), (0, .ref a0), (1, .int x1), (2, .int x2), (3, .int x3)]) (by decide +kernel : decode cX13_payable 59 = .ok (.iinc 4 1, 3)) rfl g16_ (by decide) rfl ?_
        refine re_goto (pc := 62) 32 (by decide +kernel : decode cX13_payable 62 = .ok (.goto (-30), 3)) (by decide) ?_
        refine re_sub [1, 2, 3, 4, 0] (lv1 := [(0, .ref a0), (1, .int x1), (2, .int x2), (3, .int x3), (4, .int x15_)]) rfl ?_
        exact ih S11_ a0 x1 x2 x3 x15_ _ _ h
      · refine re_if_lt_f (pc := 49) 59 (by decide +kernel : decode cX13_payable 49 = .ok (.ifCond .lt 10, 3)) (by decide) g14_ ?_
        refine re_iloadn (pc := 52) 3 (by decide +kernel : decode cX13_payable 52 = .ok (.iload_n 3, 1)) rfl ?_
        refine re_iconst (pc := 53) (1 : Int32) (by decide +kernel : decode cX13_payable 53 = .ok (.iconst 1, 1)) (by decide) ?_
        refine re_iload (pc := 54) 4 (by decide +kernel : decode cX13_payable 54 = .ok (.iload 4, 2)) rfl ?_
        refine re_ishl (pc := 56) (by decide +kernel : decode cX13_payable 56 = .ok (.ishl, 1)) ?_
        refine re_ior (pc := 57) (by decide +kernel : decode cX13_payable 57 = .ok (.ior, 1)) ?_
        obtain ⟨x17_, g18_, h⟩ := rv_lt_e h
        refine re_nI (pc := 58) g18_ ?_
        refine re_istoren (pc := 58) (lv1 := [(3, .int x17_), (0, .ref a0), (1, .int x1), (2, .int x2), (4, .int x4)]) (by decide +kernel : decode cX13_payable 58 = .ok (.istore_n 3, 1)) rfl (by decide) rfl ?_
        obtain ⟨x19_, g20_, h⟩ := rv_lt_e h
        refine re_iinc (pc := 59) 4 x19_ (lv1 := [(4, .int x19_), (3, .int x17_), (0, .ref a0), (1, .int x1), (2, .int x2)]) (by decide +kernel : decode cX13_payable 59 = .ok (.iinc 4 1, 3)) rfl g20_ (by decide) rfl ?_
        refine re_goto (pc := 62) 32 (by decide +kernel : decode cX13_payable 62 = .ok (.goto (-30), 3)) (by decide) ?_
        refine re_sub [2, 3, 4, 1, 0] (lv1 := [(0, .ref a0), (1, .int x1), (2, .int x2), (3, .int x17_), (4, .int x19_)]) rfl ?_
        exact ih S11_ a0 x1 x2 x17_ x19_ _ _ h
noncomputable def fnX13_payable (n : Nat) (S : rvS) (a0 : Nat) (x1 : Int32) (x2 : Int32) : Option (Int32 × rvS) :=
  (rv_pI S 11 a0 0 (0 : Int32)).bind fun S1_ =>
  (rv_ck S1_ 11 a0).bind fun u3_ =>
  (fnX13_lay n S1_ a0).bind fun S6_ =>
  (rv_ck S6_ 11 a0).bind fun u9_ =>
  (fnX13_isWho n S6_ a0 x1).bind fun x12_ =>
  if x12_ = 0 then (
    some ((-1 : Int32), S6_))
  else (
    (rv_ck S6_ 11 a0).bind fun u15_ =>
    (fnX13_isSum n S6_ a0 x2).bind fun x18_ =>
    if x18_ = 0 then (
      some ((-1 : Int32), S6_))
    else (
      cX13_payable_32 n n S6_ a0 x1 x2 (0 : Int32) (0 : Int32)))
set_option maxRecDepth 20000 in
set_option maxHeartbeats 4000000 in
theorem eX13_payable_in (n : Nat) (S : rvS) (a0 : Nat) (x1 : Int32) (x2 : Int32) (r : Int32) (S' : rvS) (h : fnX13_payable n S a0 x1 x2 = some (r, S')) : rv_Ev mX13_payable 6 0 [(0, .ref a0), (1, .int x1), (2, .int x2)] [] S (some (.int r)) S' := by
  unfold fnX13_payable at h
  refine re_aloadn (pc := 0) 0 (by decide +kernel : decode cX13_payable 0 = .ok (.aload_n 0, 1)) rfl ?_
  refine re_iconst (pc := 1) (0 : Int32) (by decide +kernel : decode cX13_payable 1 = .ok (.iconst 0, 1)) (by decide) ?_
  obtain ⟨S1_, g2_, h⟩ := rv_b_e h
  refine re_pI (pc := 2) g2_ lfX13_99 rfl rfl rfl rfl (by decide +kernel : decode cX13_payable 2 = .ok (.putfield 99, 3)) ?_
  refine re_aloadn (pc := 5) 0 (by decide +kernel : decode cX13_payable 5 = .ok (.aload_n 0, 1)) rfl ?_
  obtain ⟨u3_, g4_, h⟩ := rv_b_e h
  obtain ⟨S6_, g7_, h⟩ := rv_b_e h
  have m5_ := metX13_lay n S1_ a0 _ g7_
  have z8_ : rv_same S1_ S6_ := m5_.sh rfl
  refine re_cV (pc := 6) [] m5_ (rv_okl.k z8_) (rv_up.sh z8_) (by decide) (rv_ck_e g4_) ⟨by decide, rfl⟩ (Nat.le_of_ble_eq_true rfl) lVX13_187 rfl (by decide +kernel : decode cX13_payable 6 = .ok (.invokevirtual 187, 3)) ?_
  refine re_aloadn (pc := 9) 0 (by decide +kernel : decode cX13_payable 9 = .ok (.aload_n 0, 1)) rfl ?_
  refine re_iloadn (pc := 10) 1 (by decide +kernel : decode cX13_payable 10 = .ok (.iload_n 1, 1)) rfl ?_
  obtain ⟨u9_, g10_, h⟩ := rv_b_e h
  obtain ⟨x12_, g13_, h⟩ := rv_b_e h
  have m11_ := metX13_isWho n S6_ a0 x1 _ g13_
  refine re_cV (pc := 11) [.int x1] m11_ (rv_okl.k ⟨rfl, rfl⟩) (rv_up.rf _ _) (by decide) (rv_ck_e g10_) ⟨by decide, rfl⟩ (Nat.le_of_ble_eq_true rfl) lVX13_265 rfl (by decide +kernel : decode cX13_payable 11 = .ok (.invokevirtual 265, 3)) ?_
  rcases rv_if_e h with ⟨g14_, h⟩ | ⟨g14_, h⟩
  · refine re_if_eq_t (pc := 14) 25 (by decide +kernel : decode cX13_payable 14 = .ok (.ifCond .eq 11, 3)) (by decide) g14_ ?_
    refine re_iconst (pc := 25) (-1 : Int32) (by decide +kernel : decode cX13_payable 25 = .ok (.iconst (-1), 1)) (by decide) ?_
    cases h
    exact re_iret (fun ty hty => by cases hty; rfl) (by decide +kernel : decode cX13_payable 26 = .ok (.ireturn, 1))
  · refine re_if_eq_f (pc := 14) 25 (by decide +kernel : decode cX13_payable 14 = .ok (.ifCond .eq 11, 3)) (by decide) g14_ ?_
    refine re_aloadn (pc := 17) 0 (by decide +kernel : decode cX13_payable 17 = .ok (.aload_n 0, 1)) rfl ?_
    refine re_iloadn (pc := 18) 2 (by decide +kernel : decode cX13_payable 18 = .ok (.iload_n 2, 1)) rfl ?_
    obtain ⟨u15_, g16_, h⟩ := rv_b_e h
    obtain ⟨x18_, g19_, h⟩ := rv_b_e h
    have m17_ := metX13_isSum n S6_ a0 x2 _ g19_
    refine re_cV (pc := 19) [.int x2] m17_ (rv_okl.k ⟨rfl, rfl⟩) (rv_up.rf _ _) (by decide) (rv_ck_e g16_) ⟨by decide, rfl⟩ (Nat.le_of_ble_eq_true rfl) lVX13_316 rfl (by decide +kernel : decode cX13_payable 19 = .ok (.invokevirtual 316, 3)) ?_
    rcases rv_if_e h with ⟨g20_, h⟩ | ⟨g20_, h⟩
    · refine re_if_ne_f (pc := 22) 27 (by decide +kernel : decode cX13_payable 22 = .ok (.ifCond .ne 5, 3)) (by decide) g20_ ?_
      refine re_iconst (pc := 25) (-1 : Int32) (by decide +kernel : decode cX13_payable 25 = .ok (.iconst (-1), 1)) (by decide) ?_
      cases h
      exact re_iret (fun ty hty => by cases hty; rfl) (by decide +kernel : decode cX13_payable 26 = .ok (.ireturn, 1))
    · refine re_if_ne_t (pc := 22) 27 (by decide +kernel : decode cX13_payable 22 = .ok (.ifCond .ne 5, 3)) (by decide) g20_ ?_
      refine re_iconst (pc := 27) (0 : Int32) (by decide +kernel : decode cX13_payable 27 = .ok (.iconst 0, 1)) (by decide) ?_
      refine re_istoren (pc := 28) (lv1 := [(3, .int (0 : Int32)), (0, .ref a0), (1, .int x1), (2, .int x2)]) (by decide +kernel : decode cX13_payable 28 = .ok (.istore_n 3, 1)) rfl (by decide) rfl ?_
      refine re_iconst (pc := 29) (0 : Int32) (by decide +kernel : decode cX13_payable 29 = .ok (.iconst 0, 1)) (by decide) ?_
      refine re_istore (pc := 30) (lv1 := [(4, .int (0 : Int32)), (3, .int (0 : Int32)), (0, .ref a0), (1, .int x1), (2, .int x2)]) (by decide +kernel : decode cX13_payable 30 = .ok (.istore 4, 2)) (by decide) rfl ?_
      refine re_sub [2, 3, 4, 1, 0] (lv1 := [(0, .ref a0), (1, .int x1), (2, .int x2), (3, .int (0 : Int32)), (4, .int (0 : Int32))]) rfl ?_
      exact eX13_payable_32 n n S6_ a0 x1 x2 (0 : Int32) (0 : Int32) _ _ h
theorem metX13_payable (n : Nat) (S : rvS) (a0 : Nat) (x1 : Int32) (x2 : Int32) (r : Int32) (S' : rvS) (h : fnX13_payable n S a0 x1 x2 = some (r, S')) : rv_Met yX13_payable mX13_payable 6 [.ref a0, .int x1, .int x2] S (some (.int r)) S' := rv_Met.of ⟨by decide +kernel, rfl, (fun z => by first | rfl | cases z), rfl⟩ (Nat.le_of_ble_eq_true rfl) rfl (eX13_payable_in n S a0 x1 x2 r S' h)
noncomputable def fnX13_two (n : Nat) (S : rvS) (x0 : Int32) (x1 : Int32) (x2 : Int32) : Option Int32 :=
  some ((((10000 : Int32) * x0) + ((100 : Int32) * x1)) + x2)
set_option maxRecDepth 20000 in
set_option maxHeartbeats 4000000 in
theorem eX13_two_in (n : Nat) (S : rvS) (x0 : Int32) (x1 : Int32) (x2 : Int32) (r : Int32) (h : fnX13_two n S x0 x1 x2 = some r) : rv_Ev mX13_two 0 0 [(0, .int x0), (1, .int x1), (2, .int x2)] [] S (some (.int r)) S := by
  unfold fnX13_two at h
  refine re_sipush (pc := 0) (10000 : Int32) (by decide +kernel : decode cX13_two 0 = .ok (.sipush 10000, 3)) (by decide) ?_
  refine re_iloadn (pc := 3) 0 (by decide +kernel : decode cX13_two 3 = .ok (.iload_n 0, 1)) rfl ?_
  refine re_imul (pc := 4) (by decide +kernel : decode cX13_two 4 = .ok (.imul, 1)) ?_
  refine re_bipush (pc := 5) (100 : Int32) (by decide +kernel : decode cX13_two 5 = .ok (.bipush 100, 2)) (by decide) ?_
  refine re_iloadn (pc := 7) 1 (by decide +kernel : decode cX13_two 7 = .ok (.iload_n 1, 1)) rfl ?_
  refine re_imul (pc := 8) (by decide +kernel : decode cX13_two 8 = .ok (.imul, 1)) ?_
  refine re_iadd (pc := 9) (by decide +kernel : decode cX13_two 9 = .ok (.iadd, 1)) ?_
  refine re_iloadn (pc := 10) 2 (by decide +kernel : decode cX13_two 10 = .ok (.iload_n 2, 1)) rfl ?_
  refine re_iadd (pc := 11) (by decide +kernel : decode cX13_two 11 = .ok (.iadd, 1)) ?_
  cases h
  exact re_iret (fun ty hty => by cases hty; rfl) (by decide +kernel : decode cX13_two 12 = .ok (.ireturn, 1))
theorem metX13_two (n : Nat) (S : rvS) (x0 : Int32) (x1 : Int32) (x2 : Int32) (r : Int32) (h : fnX13_two n S x0 x1 x2 = some r) : rv_Met yX13_two mX13_two 0 [.int x0, .int x1, .int x2] S (some (.int r)) S := rv_Met.of ⟨by decide +kernel, rfl, (fun z => by first | rfl | cases z), rfl⟩ (Nat.le_of_ble_eq_true rfl) rfl (eX13_two_in n S x0 x1 x2 r h)
noncomputable def cX13_layTwo_18 (n : Nat) (K9 : Nat → Int32 → Int32 → Int32 → Int32 → Int32 → Int32 → Int32 → rvS → Option rvS) : Nat → rvS → Nat → Int32 → Int32 → Int32 → Int32 → Int32 → Int32 → Int32 → Int32 → Option rvS
  | 0, _, _, _, _, _, _, _, _, _, _ => none
  | k + 1, S, a0, x1, x2, x3, x4, x5, x6, x7, x8 =>
    if x5 < x8 then (
      rv_lt (x7 + (1)) fun x2_ =>
      K9 a0 x1 x2 x3 x4 x5 x6 x2_ S)
    else (
      (rv_gR S 11 a0 25).bind fun a4_ =>
      (fnX13_two n S x6 x7 x8).bind fun x7_ =>
      if (x7 + x8) = 0 then (
        (rv_uI S a4_ x7_ (0 : Int32)).bind fun S14_ =>
        rv_lt (x8 + (1)) fun x16_ =>
        cX13_layTwo_18 n K9 k S14_ a0 x1 x2 x3 x4 x5 x6 x7 x16_)
      else (
        (rv_uI S a4_ x7_ (10000 : Int32)).bind fun S10_ =>
        rv_lt (x8 + (1)) fun x12_ =>
        cX13_layTwo_18 n K9 k S10_ a0 x1 x2 x3 x4 x5 x6 x7 x12_))
set_option maxRecDepth 20000 in
set_option maxHeartbeats 4000000 in
theorem eX13_layTwo_18 (n : Nat) (K9 : Nat → Int32 → Int32 → Int32 → Int32 → Int32 → Int32 → Int32 → rvS → Option rvS) (hK9 : ∀ (a0 : Nat) (x1 : Int32) (x2 : Int32) (x3 : Int32) (x4 : Int32) (x5 : Int32) (x6 : Int32) (x7 : Int32) (S : rvS) (S' : rvS), K9 a0 x1 x2 x3 x4 x5 x6 x7 S = some S' → rv_Ev mX13_layTwo 5 9 [(0, .ref a0), (1, .int x1), (2, .int x2), (3, .int x3), (4, .int x4), (5, .int x5), (6, .int x6), (7, .int x7)] [] S none S') : ∀ (k : Nat) (S : rvS) (a0 : Nat) (x1 : Int32) (x2 : Int32) (x3 : Int32) (x4 : Int32) (x5 : Int32) (x6 : Int32) (x7 : Int32) (x8 : Int32) (S' : rvS), cX13_layTwo_18 n K9 k S a0 x1 x2 x3 x4 x5 x6 x7 x8 = some S' → rv_Ev mX13_layTwo 5 18 [(0, .ref a0), (1, .int x1), (2, .int x2), (3, .int x3), (4, .int x4), (5, .int x5), (6, .int x6), (7, .int x7), (8, .int x8)] [] S none S' := by
  intro k
  induction k with
  | zero => intro S a0 x1 x2 x3 x4 x5 x6 x7 x8 S' h; exact absurd h (by simp [cX13_layTwo_18])
  | succ k ih =>
    intro S a0 x1 x2 x3 x4 x5 x6 x7 x8 S' h
    unfold cX13_layTwo_18 at h
    refine re_iload (pc := 18) 8 (by decide +kernel : decode cX13_layTwo 18 = .ok (.iload 8, 2)) rfl ?_
    refine re_iload (pc := 20) 5 (by decide +kernel : decode cX13_layTwo 20 = .ok (.iload 5, 2)) rfl ?_
    rcases rv_if_e h with ⟨g1_, h⟩ | ⟨g1_, h⟩
    · refine re_icmp_gt_t (pc := 22) 60 (by decide +kernel : decode cX13_layTwo 22 = .ok (.if_icmp .gt 38, 3)) (by decide) g1_ ?_
      obtain ⟨x2_, g3_, h⟩ := rv_lt_e h
      refine re_iinc (pc := 60) 7 x2_ (lv1 := [(7, .int x2_), (0, .ref a0), (1, .int x1), (2, .int x2), (3, .int x3), (4, .int x4), (5, .int x5), (6, .int x6), (8, .int x8)]) (by decide +kernel : decode cX13_layTwo 60 = .ok (.iinc 7 1, 3)) rfl g3_ (by decide) rfl ?_
      refine re_goto (pc := 63) 9 (by decide +kernel : decode cX13_layTwo 63 = .ok (.goto (-54), 3)) (by decide) ?_
      refine re_sub [1, 2, 3, 4, 5, 6, 7, 0] (lv1 := [(0, .ref a0), (1, .int x1), (2, .int x2), (3, .int x3), (4, .int x4), (5, .int x5), (6, .int x6), (7, .int x2_)]) rfl ?_
      exact hK9 a0 x1 x2 x3 x4 x5 x6 x2_ S _ h
    · refine re_icmp_gt_f (pc := 22) 60 (by decide +kernel : decode cX13_layTwo 22 = .ok (.if_icmp .gt 38, 3)) (by decide) g1_ ?_
      refine re_aloadn (pc := 25) 0 (by decide +kernel : decode cX13_layTwo 25 = .ok (.aload_n 0, 1)) rfl ?_
      obtain ⟨a4_, g5_, h⟩ := rv_b_e h
      refine re_gR (pc := 26) g5_ lfX13_43 rfl (by decide +kernel : decode cX13_layTwo 26 = .ok (.getfield 43, 3)) ?_
      refine re_iload (pc := 29) 6 (by decide +kernel : decode cX13_layTwo 29 = .ok (.iload 6, 2)) rfl ?_
      refine re_iload (pc := 31) 7 (by decide +kernel : decode cX13_layTwo 31 = .ok (.iload 7, 2)) rfl ?_
      refine re_iload (pc := 33) 8 (by decide +kernel : decode cX13_layTwo 33 = .ok (.iload 8, 2)) rfl ?_
      obtain ⟨x7_, g8_, h⟩ := rv_b_e h
      have m6_ := metX13_two n S x6 x7 x8 _ g8_
      refine re_cS (pc := 35) [.int x6, .int x7, .int x8] m6_ (rv_okl.k ⟨rfl, rfl⟩) (rv_up.rf _ _) (by decide) (Nat.le_of_ble_eq_true rfl) lSX13_332 rfl (by decide +kernel : decode cX13_layTwo 35 = .ok (.invokestatic 332, 3)) ?_
      refine re_iload (pc := 38) 7 (by decide +kernel : decode cX13_layTwo 38 = .ok (.iload 7, 2)) rfl ?_
      refine re_iload (pc := 40) 8 (by decide +kernel : decode cX13_layTwo 40 = .ok (.iload 8, 2)) rfl ?_
      refine re_iadd (pc := 42) (by decide +kernel : decode cX13_layTwo 42 = .ok (.iadd, 1)) ?_
      rcases rv_if_e h with ⟨g9_, h⟩ | ⟨g9_, h⟩
      · refine re_if_ne_f (pc := 43) 50 (by decide +kernel : decode cX13_layTwo 43 = .ok (.ifCond .ne 7, 3)) (by decide) g9_ ?_
        refine re_iconst (pc := 46) (0 : Int32) (by decide +kernel : decode cX13_layTwo 46 = .ok (.iconst 0, 1)) (by decide) ?_
        refine re_goto (pc := 47) 53 (by decide +kernel : decode cX13_layTwo 47 = .ok (.goto 6, 3)) (by decide) ?_
        obtain ⟨S14_, g15_, h⟩ := rv_b_e h
        refine re_uI (pc := 53) g15_ (by decide +kernel : decode cX13_layTwo 53 = .ok (.iastore, 1)) ?_
        obtain ⟨x16_, g17_, h⟩ := rv_lt_e h
        refine re_iinc (pc := 54) 8 x16_ (lv1 := [(8, .int x16_), (0, .ref a0), (1, .int x1), (2, .int x2), (3, .int x3), (4, .int x4), (5, .int x5), (6, .int x6), (7, .int x7)]) (by decide +kernel : decode cX13_layTwo 54 = .ok (.iinc 8 1, 3)) rfl g17_ (by decide) rfl ?_
        refine re_goto (pc := 57) 18 (by decide +kernel : decode cX13_layTwo 57 = .ok (.goto (-39), 3)) (by decide) ?_
        refine re_sub [1, 2, 3, 4, 5, 6, 7, 8, 0] (lv1 := [(0, .ref a0), (1, .int x1), (2, .int x2), (3, .int x3), (4, .int x4), (5, .int x5), (6, .int x6), (7, .int x7), (8, .int x16_)]) rfl ?_
        exact ih S14_ a0 x1 x2 x3 x4 x5 x6 x7 x16_ _ h
      · refine re_if_ne_t (pc := 43) 50 (by decide +kernel : decode cX13_layTwo 43 = .ok (.ifCond .ne 7, 3)) (by decide) g9_ ?_
        refine re_sipush (pc := 50) (10000 : Int32) (by decide +kernel : decode cX13_layTwo 50 = .ok (.sipush 10000, 3)) (by decide) ?_
        obtain ⟨S10_, g11_, h⟩ := rv_b_e h
        refine re_uI (pc := 53) g11_ (by decide +kernel : decode cX13_layTwo 53 = .ok (.iastore, 1)) ?_
        obtain ⟨x12_, g13_, h⟩ := rv_lt_e h
        refine re_iinc (pc := 54) 8 x12_ (lv1 := [(8, .int x12_), (0, .ref a0), (1, .int x1), (2, .int x2), (3, .int x3), (4, .int x4), (5, .int x5), (6, .int x6), (7, .int x7)]) (by decide +kernel : decode cX13_layTwo 54 = .ok (.iinc 8 1, 3)) rfl g13_ (by decide) rfl ?_
        refine re_goto (pc := 57) 18 (by decide +kernel : decode cX13_layTwo 57 = .ok (.goto (-39), 3)) (by decide) ?_
        refine re_sub [1, 2, 3, 4, 5, 6, 7, 8, 0] (lv1 := [(0, .ref a0), (1, .int x1), (2, .int x2), (3, .int x3), (4, .int x4), (5, .int x5), (6, .int x6), (7, .int x7), (8, .int x12_)]) rfl ?_
        exact ih S10_ a0 x1 x2 x3 x4 x5 x6 x7 x12_ _ h
noncomputable def cX13_layTwo_275 (n : Nat) (K72 : Nat → Int32 → Int32 → Int32 → Int32 → Int32 → Int32 → rvS → Option rvS) (K133 : Nat → Int32 → Int32 → Int32 → Int32 → Int32 → Int32 → Int32 → Int32 → Int32 → rvS → Option rvS) (K142 : Nat → Int32 → Int32 → Int32 → Int32 → Int32 → Int32 → Int32 → Int32 → Int32 → Int32 → rvS → Option rvS) (S : rvS) (a0 : Nat) (x1 : Int32) (x2 : Int32) (x3 : Int32) (x4 : Int32) (x5 : Int32) (x7 : Int32) (x8 : Int32) (x9 : Int32) (x10 : Int32) (x11 : Int32) (x12 : Int32) : Option rvS :=
  (rv_gR S 11 a0 25).bind fun a1_ =>
  (fnX13_two n S x7 x10 x11).bind fun x4_ =>
  (rv_uI S a1_ x4_ x12).bind fun S6_ =>
  rv_lt (x11 + (1)) fun x8_ =>
  K142 a0 x1 x2 x3 x4 x5 x7 x8 x9 x10 x8_ S6_
set_option maxRecDepth 20000 in
set_option maxHeartbeats 4000000 in
theorem eX13_layTwo_275 (n : Nat) (K72 : Nat → Int32 → Int32 → Int32 → Int32 → Int32 → Int32 → rvS → Option rvS) (K133 : Nat → Int32 → Int32 → Int32 → Int32 → Int32 → Int32 → Int32 → Int32 → Int32 → rvS → Option rvS) (K142 : Nat → Int32 → Int32 → Int32 → Int32 → Int32 → Int32 → Int32 → Int32 → Int32 → Int32 → rvS → Option rvS) (hK72 : ∀ (a0 : Nat) (x1 : Int32) (x2 : Int32) (x3 : Int32) (x4 : Int32) (x5 : Int32) (x7 : Int32) (S : rvS) (S' : rvS), K72 a0 x1 x2 x3 x4 x5 x7 S = some S' → rv_Ev mX13_layTwo 5 72 [(0, .ref a0), (1, .int x1), (2, .int x2), (3, .int x3), (4, .int x4), (5, .int x5), (7, .int x7)] [] S none S') (hK133 : ∀ (a0 : Nat) (x1 : Int32) (x2 : Int32) (x3 : Int32) (x4 : Int32) (x5 : Int32) (x7 : Int32) (x8 : Int32) (x9 : Int32) (x10 : Int32) (S : rvS) (S' : rvS), K133 a0 x1 x2 x3 x4 x5 x7 x8 x9 x10 S = some S' → rv_Ev mX13_layTwo 5 133 [(0, .ref a0), (1, .int x1), (2, .int x2), (3, .int x3), (4, .int x4), (5, .int x5), (7, .int x7), (8, .int x8), (9, .int x9), (10, .int x10)] [] S none S') (hK142 : ∀ (a0 : Nat) (x1 : Int32) (x2 : Int32) (x3 : Int32) (x4 : Int32) (x5 : Int32) (x7 : Int32) (x8 : Int32) (x9 : Int32) (x10 : Int32) (x11 : Int32) (S : rvS) (S' : rvS), K142 a0 x1 x2 x3 x4 x5 x7 x8 x9 x10 x11 S = some S' → rv_Ev mX13_layTwo 5 142 [(0, .ref a0), (1, .int x1), (2, .int x2), (3, .int x3), (4, .int x4), (5, .int x5), (7, .int x7), (8, .int x8), (9, .int x9), (10, .int x10), (11, .int x11)] [] S none S') (S : rvS) (a0 : Nat) (x1 : Int32) (x2 : Int32) (x3 : Int32) (x4 : Int32) (x5 : Int32) (x7 : Int32) (x8 : Int32) (x9 : Int32) (x10 : Int32) (x11 : Int32) (x12 : Int32) (S' : rvS) (h : cX13_layTwo_275 n K72 K133 K142 S a0 x1 x2 x3 x4 x5 x7 x8 x9 x10 x11 x12 = some S') : rv_Ev mX13_layTwo 5 275 [(0, .ref a0), (1, .int x1), (2, .int x2), (3, .int x3), (4, .int x4), (5, .int x5), (7, .int x7), (8, .int x8), (9, .int x9), (10, .int x10), (11, .int x11), (12, .int x12)] [] S none S' := by
  unfold cX13_layTwo_275 at h
  refine re_aloadn (pc := 275) 0 (by decide +kernel : decode cX13_layTwo 275 = .ok (.aload_n 0, 1)) rfl ?_
  obtain ⟨a1_, g2_, h⟩ := rv_b_e h
  refine re_gR (pc := 276) g2_ lfX13_43 rfl (by decide +kernel : decode cX13_layTwo 276 = .ok (.getfield 43, 3)) ?_
  refine re_iload (pc := 279) 6 (by decide +kernel : decode cX13_layTwo 279 = .ok (.iload 7, 2)) rfl ?_
  refine re_iload (pc := 281) 9 (by decide +kernel : decode cX13_layTwo 281 = .ok (.iload 10, 2)) rfl ?_
  refine re_iload (pc := 283) 10 (by decide +kernel : decode cX13_layTwo 283 = .ok (.iload 11, 2)) rfl ?_
  obtain ⟨x4_, g5_, h⟩ := rv_b_e h
  have m3_ := metX13_two n S x7 x10 x11 _ g5_
  refine re_cS (pc := 285) [.int x7, .int x10, .int x11] m3_ (rv_okl.k ⟨rfl, rfl⟩) (rv_up.rf _ _) (by decide) (Nat.le_of_ble_eq_true rfl) lSX13_332 rfl (by decide +kernel : decode cX13_layTwo 285 = .ok (.invokestatic 332, 3)) ?_
  refine re_iload (pc := 288) 11 (by decide +kernel : decode cX13_layTwo 288 = .ok (.iload 12, 2)) rfl ?_
  obtain ⟨S6_, g7_, h⟩ := rv_b_e h
  refine re_uI (pc := 290) g7_ (by decide +kernel : decode cX13_layTwo 290 = .ok (.iastore, 1)) ?_
  obtain ⟨x8_, g9_, h⟩ := rv_lt_e h
  refine re_iinc (pc := 291) 10 x8_ (lv1 := [(11, .int x8_), (0, .ref a0), (1, .int x1), (2, .int x2), (3, .int x3), (4, .int x4), (5, .int x5), (7, .int x7), (8, .int x8), (9, .int x9), (10, .int x10), (12, .int x12)]) (by decide +kernel : decode cX13_layTwo 291 = .ok (.iinc 11 1, 3)) rfl g9_ (by decide) rfl ?_
  refine re_goto (pc := 294) 142 (by decide +kernel : decode cX13_layTwo 294 = .ok (.goto (-152), 3)) (by decide) ?_
  refine re_sub [1, 2, 3, 4, 5, 6, 7, 8, 9, 10, 0] (lv1 := [(0, .ref a0), (1, .int x1), (2, .int x2), (3, .int x3), (4, .int x4), (5, .int x5), (7, .int x7), (8, .int x8), (9, .int x9), (10, .int x10), (11, .int x8_)]) rfl ?_
  exact hK142 a0 x1 x2 x3 x4 x5 x7 x8 x9 x10 x8_ S6_ _ h
noncomputable def cX13_layTwo_223 (n : Nat) (K72 : Nat → Int32 → Int32 → Int32 → Int32 → Int32 → Int32 → rvS → Option rvS) (K133 : Nat → Int32 → Int32 → Int32 → Int32 → Int32 → Int32 → Int32 → Int32 → Int32 → rvS → Option rvS) (K142 : Nat → Int32 → Int32 → Int32 → Int32 → Int32 → Int32 → Int32 → Int32 → Int32 → Int32 → rvS → Option rvS) (S : rvS) (a0 : Nat) (x1 : Int32) (x2 : Int32) (x3 : Int32) (x4 : Int32) (x5 : Int32) (x7 : Int32) (x8 : Int32) (x9 : Int32) (x10 : Int32) (x11 : Int32) (x12 : Int32) : Option rvS :=
  if x11 < x9 then (
    cX13_layTwo_275 n K72 K133 K142 S a0 x1 x2 x3 x4 x5 x7 x8 x9 x10 x11 x12)
  else (
    (rv_gR S 11 a0 25).bind fun a2_ =>
    (fnX13_two n S (x7 + (1 : Int32)) x10 (x11 - x9)).bind fun x5_ =>
    (rv_aI S 0 a2_ x5_).bind fun x7_ =>
    if x12 ≤ x7_ then (
      cX13_layTwo_275 n K72 K133 K142 S a0 x1 x2 x3 x4 x5 x7 x8 x9 x10 x11 x12)
    else (
      (rv_gR S 11 a0 25).bind fun a10_ =>
      (fnX13_two n S (x7 + (1 : Int32)) x10 (x11 - x9)).bind fun x13_ =>
      (rv_aI S 0 a10_ x13_).bind fun x15_ =>
      cX13_layTwo_275 n K72 K133 K142 S a0 x1 x2 x3 x4 x5 x7 x8 x9 x10 x11 x15_))
set_option maxRecDepth 20000 in
set_option maxHeartbeats 4000000 in
theorem eX13_layTwo_223 (n : Nat) (K72 : Nat → Int32 → Int32 → Int32 → Int32 → Int32 → Int32 → rvS → Option rvS) (K133 : Nat → Int32 → Int32 → Int32 → Int32 → Int32 → Int32 → Int32 → Int32 → Int32 → rvS → Option rvS) (K142 : Nat → Int32 → Int32 → Int32 → Int32 → Int32 → Int32 → Int32 → Int32 → Int32 → Int32 → rvS → Option rvS) (hK72 : ∀ (a0 : Nat) (x1 : Int32) (x2 : Int32) (x3 : Int32) (x4 : Int32) (x5 : Int32) (x7 : Int32) (S : rvS) (S' : rvS), K72 a0 x1 x2 x3 x4 x5 x7 S = some S' → rv_Ev mX13_layTwo 5 72 [(0, .ref a0), (1, .int x1), (2, .int x2), (3, .int x3), (4, .int x4), (5, .int x5), (7, .int x7)] [] S none S') (hK133 : ∀ (a0 : Nat) (x1 : Int32) (x2 : Int32) (x3 : Int32) (x4 : Int32) (x5 : Int32) (x7 : Int32) (x8 : Int32) (x9 : Int32) (x10 : Int32) (S : rvS) (S' : rvS), K133 a0 x1 x2 x3 x4 x5 x7 x8 x9 x10 S = some S' → rv_Ev mX13_layTwo 5 133 [(0, .ref a0), (1, .int x1), (2, .int x2), (3, .int x3), (4, .int x4), (5, .int x5), (7, .int x7), (8, .int x8), (9, .int x9), (10, .int x10)] [] S none S') (hK142 : ∀ (a0 : Nat) (x1 : Int32) (x2 : Int32) (x3 : Int32) (x4 : Int32) (x5 : Int32) (x7 : Int32) (x8 : Int32) (x9 : Int32) (x10 : Int32) (x11 : Int32) (S : rvS) (S' : rvS), K142 a0 x1 x2 x3 x4 x5 x7 x8 x9 x10 x11 S = some S' → rv_Ev mX13_layTwo 5 142 [(0, .ref a0), (1, .int x1), (2, .int x2), (3, .int x3), (4, .int x4), (5, .int x5), (7, .int x7), (8, .int x8), (9, .int x9), (10, .int x10), (11, .int x11)] [] S none S') (S : rvS) (a0 : Nat) (x1 : Int32) (x2 : Int32) (x3 : Int32) (x4 : Int32) (x5 : Int32) (x7 : Int32) (x8 : Int32) (x9 : Int32) (x10 : Int32) (x11 : Int32) (x12 : Int32) (S' : rvS) (h : cX13_layTwo_223 n K72 K133 K142 S a0 x1 x2 x3 x4 x5 x7 x8 x9 x10 x11 x12 = some S') : rv_Ev mX13_layTwo 5 223 [(0, .ref a0), (1, .int x1), (2, .int x2), (3, .int x3), (4, .int x4), (5, .int x5), (7, .int x7), (8, .int x8), (9, .int x9), (10, .int x10), (11, .int x11), (12, .int x12)] [] S none S' := by
  unfold cX13_layTwo_223 at h
  refine re_iload (pc := 223) 8 (by decide +kernel : decode cX13_layTwo 223 = .ok (.iload 9, 2)) rfl ?_
  refine re_iload (pc := 225) 10 (by decide +kernel : decode cX13_layTwo 225 = .ok (.iload 11, 2)) rfl ?_
  rcases rv_if_e h with ⟨g1_, h⟩ | ⟨g1_, h⟩
  · refine re_icmp_gt_t (pc := 227) 275 (by decide +kernel : decode cX13_layTwo 227 = .ok (.if_icmp .gt 48, 3)) (by decide) g1_ ?_
    exact eX13_layTwo_275 n K72 K133 K142 hK72 hK133 hK142 S a0 x1 x2 x3 x4 x5 x7 x8 x9 x10 x11 x12 _ h
  · refine re_icmp_gt_f (pc := 227) 275 (by decide +kernel : decode cX13_layTwo 227 = .ok (.if_icmp .gt 48, 3)) (by decide) g1_ ?_
    refine re_aloadn (pc := 230) 0 (by decide +kernel : decode cX13_layTwo 230 = .ok (.aload_n 0, 1)) rfl ?_
    obtain ⟨a2_, g3_, h⟩ := rv_b_e h
    refine re_gR (pc := 231) g3_ lfX13_43 rfl (by decide +kernel : decode cX13_layTwo 231 = .ok (.getfield 43, 3)) ?_
    refine re_iload (pc := 234) 6 (by decide +kernel : decode cX13_layTwo 234 = .ok (.iload 7, 2)) rfl ?_
    refine re_iconst (pc := 236) (1 : Int32) (by decide +kernel : decode cX13_layTwo 236 = .ok (.iconst 1, 1)) (by decide) ?_
    refine re_iadd (pc := 237) (by decide +kernel : decode cX13_layTwo 237 = .ok (.iadd, 1)) ?_
    refine re_iload (pc := 238) 9 (by decide +kernel : decode cX13_layTwo 238 = .ok (.iload 10, 2)) rfl ?_
    refine re_iload (pc := 240) 10 (by decide +kernel : decode cX13_layTwo 240 = .ok (.iload 11, 2)) rfl ?_
    refine re_iload (pc := 242) 8 (by decide +kernel : decode cX13_layTwo 242 = .ok (.iload 9, 2)) rfl ?_
    refine re_isub (pc := 244) (by decide +kernel : decode cX13_layTwo 244 = .ok (.isub, 1)) ?_
    obtain ⟨x5_, g6_, h⟩ := rv_b_e h
    have m4_ := metX13_two n S (x7 + (1 : Int32)) x10 (x11 - x9) _ g6_
    refine re_cS (pc := 245) [.int (x7 + (1 : Int32)), .int x10, .int (x11 - x9)] m4_ (rv_okl.k ⟨rfl, rfl⟩) (rv_up.rf _ _) (by decide) (Nat.le_of_ble_eq_true rfl) lSX13_332 rfl (by decide +kernel : decode cX13_layTwo 245 = .ok (.invokestatic 332, 3)) ?_
    obtain ⟨x7_, g8_, h⟩ := rv_b_e h
    refine re_aI (pc := 248) g8_ (by decide +kernel : decode cX13_layTwo 248 = .ok (.iaload, 1)) ?_
    refine re_iload (pc := 249) 11 (by decide +kernel : decode cX13_layTwo 249 = .ok (.iload 12, 2)) rfl ?_
    rcases rv_if_e h with ⟨g9_, h⟩ | ⟨g9_, h⟩
    · refine re_icmp_ge_t (pc := 251) 275 (by decide +kernel : decode cX13_layTwo 251 = .ok (.if_icmp .ge 24, 3)) (by decide) g9_ ?_
      exact eX13_layTwo_275 n K72 K133 K142 hK72 hK133 hK142 S a0 x1 x2 x3 x4 x5 x7 x8 x9 x10 x11 x12 _ h
    · refine re_icmp_ge_f (pc := 251) 275 (by decide +kernel : decode cX13_layTwo 251 = .ok (.if_icmp .ge 24, 3)) (by decide) g9_ ?_
      refine re_aloadn (pc := 254) 0 (by decide +kernel : decode cX13_layTwo 254 = .ok (.aload_n 0, 1)) rfl ?_
      obtain ⟨a10_, g11_, h⟩ := rv_b_e h
      refine re_gR (pc := 255) g11_ lfX13_43 rfl (by decide +kernel : decode cX13_layTwo 255 = .ok (.getfield 43, 3)) ?_
      refine re_iload (pc := 258) 6 (by decide +kernel : decode cX13_layTwo 258 = .ok (.iload 7, 2)) rfl ?_
      refine re_iconst (pc := 260) (1 : Int32) (by decide +kernel : decode cX13_layTwo 260 = .ok (.iconst 1, 1)) (by decide) ?_
      refine re_iadd (pc := 261) (by decide +kernel : decode cX13_layTwo 261 = .ok (.iadd, 1)) ?_
      refine re_iload (pc := 262) 9 (by decide +kernel : decode cX13_layTwo 262 = .ok (.iload 10, 2)) rfl ?_
      refine re_iload (pc := 264) 10 (by decide +kernel : decode cX13_layTwo 264 = .ok (.iload 11, 2)) rfl ?_
      refine re_iload (pc := 266) 8 (by decide +kernel : decode cX13_layTwo 266 = .ok (.iload 9, 2)) rfl ?_
      refine re_isub (pc := 268) (by decide +kernel : decode cX13_layTwo 268 = .ok (.isub, 1)) ?_
      obtain ⟨x13_, g14_, h⟩ := rv_b_e h
      have m12_ := metX13_two n S (x7 + (1 : Int32)) x10 (x11 - x9) _ g14_
      refine re_cS (pc := 269) [.int (x7 + (1 : Int32)), .int x10, .int (x11 - x9)] m12_ (rv_okl.k ⟨rfl, rfl⟩) (rv_up.rf _ _) (by decide) (Nat.le_of_ble_eq_true rfl) lSX13_332 rfl (by decide +kernel : decode cX13_layTwo 269 = .ok (.invokestatic 332, 3)) ?_
      obtain ⟨x15_, g16_, h⟩ := rv_b_e h
      refine re_aI (pc := 272) g16_ (by decide +kernel : decode cX13_layTwo 272 = .ok (.iaload, 1)) ?_
      refine re_istore (pc := 273) (lv1 := [(12, .int x15_), (0, .ref a0), (1, .int x1), (2, .int x2), (3, .int x3), (4, .int x4), (5, .int x5), (7, .int x7), (8, .int x8), (9, .int x9), (10, .int x10), (11, .int x11)]) (by decide +kernel : decode cX13_layTwo 273 = .ok (.istore 12, 2)) (by decide) rfl ?_
      refine re_sub [1, 2, 3, 4, 5, 6, 7, 8, 9, 10, 11, 0] (lv1 := [(0, .ref a0), (1, .int x1), (2, .int x2), (3, .int x3), (4, .int x4), (5, .int x5), (7, .int x7), (8, .int x8), (9, .int x9), (10, .int x10), (11, .int x11), (12, .int x15_)]) rfl ?_
      exact eX13_layTwo_275 n K72 K133 K142 hK72 hK133 hK142 S a0 x1 x2 x3 x4 x5 x7 x8 x9 x10 x11 x15_ _ h
noncomputable def cX13_layTwo_142 (n : Nat) (K72 : Nat → Int32 → Int32 → Int32 → Int32 → Int32 → Int32 → rvS → Option rvS) (K133 : Nat → Int32 → Int32 → Int32 → Int32 → Int32 → Int32 → Int32 → Int32 → Int32 → rvS → Option rvS) : Nat → rvS → Nat → Int32 → Int32 → Int32 → Int32 → Int32 → Int32 → Int32 → Int32 → Int32 → Int32 → Option rvS
  | 0, _, _, _, _, _, _, _, _, _, _, _, _ => none
  | k + 1, S, a0, x1, x2, x3, x4, x5, x7, x8, x9, x10, x11 =>
    if x5 < x11 then (
      rv_lt (x10 + (1)) fun x2_ =>
      K133 a0 x1 x2 x3 x4 x5 x7 x8 x9 x2_ S)
    else (
      (rv_gR S 11 a0 25).bind fun a4_ =>
      (fnX13_two n S (x7 + (1 : Int32)) x10 x11).bind fun x7_ =>
      (rv_aI S 0 a4_ x7_).bind fun x9_ =>
      if x10 < x8 then (
        cX13_layTwo_223 n K72 K133 (fun a0 x1 x2 x3 x4 x5 x7 x8 x9 x10 x11 S => cX13_layTwo_142 n K72 K133 k S a0 x1 x2 x3 x4 x5 x7 x8 x9 x10 x11) S a0 x1 x2 x3 x4 x5 x7 x8 x9 x10 x11 x9_)
      else (
        (rv_gR S 11 a0 25).bind fun a12_ =>
        (fnX13_two n S (x7 + (1 : Int32)) (x10 - x8) x11).bind fun x15_ =>
        (rv_aI S 0 a12_ x15_).bind fun x17_ =>
        if x9_ ≤ (x17_ + (1 : Int32)) then (
          cX13_layTwo_223 n K72 K133 (fun a0 x1 x2 x3 x4 x5 x7 x8 x9 x10 x11 S => cX13_layTwo_142 n K72 K133 k S a0 x1 x2 x3 x4 x5 x7 x8 x9 x10 x11) S a0 x1 x2 x3 x4 x5 x7 x8 x9 x10 x11 x9_)
        else (
          (rv_gR S 11 a0 25).bind fun a20_ =>
          (fnX13_two n S (x7 + (1 : Int32)) (x10 - x8) x11).bind fun x23_ =>
          (rv_aI S 0 a20_ x23_).bind fun x25_ =>
          rv_lt (x25_ + (1 : Int32)) fun x27_ =>
          cX13_layTwo_223 n K72 K133 (fun a0 x1 x2 x3 x4 x5 x7 x8 x9 x10 x11 S => cX13_layTwo_142 n K72 K133 k S a0 x1 x2 x3 x4 x5 x7 x8 x9 x10 x11) S a0 x1 x2 x3 x4 x5 x7 x8 x9 x10 x11 x27_)))
set_option maxRecDepth 20000 in
set_option maxHeartbeats 4000000 in
theorem eX13_layTwo_142 (n : Nat) (K72 : Nat → Int32 → Int32 → Int32 → Int32 → Int32 → Int32 → rvS → Option rvS) (K133 : Nat → Int32 → Int32 → Int32 → Int32 → Int32 → Int32 → Int32 → Int32 → Int32 → rvS → Option rvS) (hK72 : ∀ (a0 : Nat) (x1 : Int32) (x2 : Int32) (x3 : Int32) (x4 : Int32) (x5 : Int32) (x7 : Int32) (S : rvS) (S' : rvS), K72 a0 x1 x2 x3 x4 x5 x7 S = some S' → rv_Ev mX13_layTwo 5 72 [(0, .ref a0), (1, .int x1), (2, .int x2), (3, .int x3), (4, .int x4), (5, .int x5), (7, .int x7)] [] S none S') (hK133 : ∀ (a0 : Nat) (x1 : Int32) (x2 : Int32) (x3 : Int32) (x4 : Int32) (x5 : Int32) (x7 : Int32) (x8 : Int32) (x9 : Int32) (x10 : Int32) (S : rvS) (S' : rvS), K133 a0 x1 x2 x3 x4 x5 x7 x8 x9 x10 S = some S' → rv_Ev mX13_layTwo 5 133 [(0, .ref a0), (1, .int x1), (2, .int x2), (3, .int x3), (4, .int x4), (5, .int x5), (7, .int x7), (8, .int x8), (9, .int x9), (10, .int x10)] [] S none S') : ∀ (k : Nat) (S : rvS) (a0 : Nat) (x1 : Int32) (x2 : Int32) (x3 : Int32) (x4 : Int32) (x5 : Int32) (x7 : Int32) (x8 : Int32) (x9 : Int32) (x10 : Int32) (x11 : Int32) (S' : rvS), cX13_layTwo_142 n K72 K133 k S a0 x1 x2 x3 x4 x5 x7 x8 x9 x10 x11 = some S' → rv_Ev mX13_layTwo 5 142 [(0, .ref a0), (1, .int x1), (2, .int x2), (3, .int x3), (4, .int x4), (5, .int x5), (7, .int x7), (8, .int x8), (9, .int x9), (10, .int x10), (11, .int x11)] [] S none S' := by
  intro k
  induction k with
  | zero => intro S a0 x1 x2 x3 x4 x5 x7 x8 x9 x10 x11 S' h; exact absurd h (by simp [cX13_layTwo_142])
  | succ k ih =>
    intro S a0 x1 x2 x3 x4 x5 x7 x8 x9 x10 x11 S' h
    unfold cX13_layTwo_142 at h
    refine re_iload (pc := 142) 10 (by decide +kernel : decode cX13_layTwo 142 = .ok (.iload 11, 2)) rfl ?_
    refine re_iload (pc := 144) 5 (by decide +kernel : decode cX13_layTwo 144 = .ok (.iload 5, 2)) rfl ?_
    rcases rv_if_e h with ⟨g1_, h⟩ | ⟨g1_, h⟩
    · refine re_icmp_gt_t (pc := 146) 297 (by decide +kernel : decode cX13_layTwo 146 = .ok (.if_icmp .gt 151, 3)) (by decide) g1_ ?_
      obtain ⟨x2_, g3_, h⟩ := rv_lt_e h
      refine re_iinc (pc := 297) 9 x2_ (lv1 := [(10, .int x2_), (0, .ref a0), (1, .int x1), (2, .int x2), (3, .int x3), (4, .int x4), (5, .int x5), (7, .int x7), (8, .int x8), (9, .int x9), (11, .int x11)]) (by decide +kernel : decode cX13_layTwo 297 = .ok (.iinc 10 1, 3)) rfl g3_ (by decide) rfl ?_
      refine re_goto (pc := 300) 133 (by decide +kernel : decode cX13_layTwo 300 = .ok (.goto (-167), 3)) (by decide) ?_
      refine re_sub [1, 2, 3, 4, 5, 6, 7, 8, 9, 0] (lv1 := [(0, .ref a0), (1, .int x1), (2, .int x2), (3, .int x3), (4, .int x4), (5, .int x5), (7, .int x7), (8, .int x8), (9, .int x9), (10, .int x2_)]) rfl ?_
      exact hK133 a0 x1 x2 x3 x4 x5 x7 x8 x9 x2_ S _ h
    · refine re_icmp_gt_f (pc := 146) 297 (by decide +kernel : decode cX13_layTwo 146 = .ok (.if_icmp .gt 151, 3)) (by decide) g1_ ?_
      refine re_aloadn (pc := 149) 0 (by decide +kernel : decode cX13_layTwo 149 = .ok (.aload_n 0, 1)) rfl ?_
      obtain ⟨a4_, g5_, h⟩ := rv_b_e h
      refine re_gR (pc := 150) g5_ lfX13_43 rfl (by decide +kernel : decode cX13_layTwo 150 = .ok (.getfield 43, 3)) ?_
      refine re_iload (pc := 153) 6 (by decide +kernel : decode cX13_layTwo 153 = .ok (.iload 7, 2)) rfl ?_
      refine re_iconst (pc := 155) (1 : Int32) (by decide +kernel : decode cX13_layTwo 155 = .ok (.iconst 1, 1)) (by decide) ?_
      refine re_iadd (pc := 156) (by decide +kernel : decode cX13_layTwo 156 = .ok (.iadd, 1)) ?_
      refine re_iload (pc := 157) 9 (by decide +kernel : decode cX13_layTwo 157 = .ok (.iload 10, 2)) rfl ?_
      refine re_iload (pc := 159) 10 (by decide +kernel : decode cX13_layTwo 159 = .ok (.iload 11, 2)) rfl ?_
      obtain ⟨x7_, g8_, h⟩ := rv_b_e h
      have m6_ := metX13_two n S (x7 + (1 : Int32)) x10 x11 _ g8_
      refine re_cS (pc := 161) [.int (x7 + (1 : Int32)), .int x10, .int x11] m6_ (rv_okl.k ⟨rfl, rfl⟩) (rv_up.rf _ _) (by decide) (Nat.le_of_ble_eq_true rfl) lSX13_332 rfl (by decide +kernel : decode cX13_layTwo 161 = .ok (.invokestatic 332, 3)) ?_
      obtain ⟨x9_, g10_, h⟩ := rv_b_e h
      refine re_aI (pc := 164) g10_ (by decide +kernel : decode cX13_layTwo 164 = .ok (.iaload, 1)) ?_
      refine re_istore (pc := 165) (lv1 := [(12, .int x9_), (0, .ref a0), (1, .int x1), (2, .int x2), (3, .int x3), (4, .int x4), (5, .int x5), (7, .int x7), (8, .int x8), (9, .int x9), (10, .int x10), (11, .int x11)]) (by decide +kernel : decode cX13_layTwo 165 = .ok (.istore 12, 2)) (by decide) rfl ?_
      refine re_iload (pc := 167) 8 (by decide +kernel : decode cX13_layTwo 167 = .ok (.iload 8, 2)) rfl ?_
      refine re_iload (pc := 169) 10 (by decide +kernel : decode cX13_layTwo 169 = .ok (.iload 10, 2)) rfl ?_
      rcases rv_if_e h with ⟨g11_, h⟩ | ⟨g11_, h⟩
      · refine re_icmp_gt_t (pc := 171) 223 (by decide +kernel : decode cX13_layTwo 171 = .ok (.if_icmp .gt 52, 3)) (by decide) g11_ ?_
        refine re_sub [1, 2, 3, 4, 5, 6, 7, 8, 9, 10, 11, 0] (lv1 := [(0, .ref a0), (1, .int x1), (2, .int x2), (3, .int x3), (4, .int x4), (5, .int x5), (7, .int x7), (8, .int x8), (9, .int x9), (10, .int x10), (11, .int x11), (12, .int x9_)]) rfl ?_
        exact eX13_layTwo_223 n K72 K133 (fun a0 x1 x2 x3 x4 x5 x7 x8 x9 x10 x11 S => cX13_layTwo_142 n K72 K133 k S a0 x1 x2 x3 x4 x5 x7 x8 x9 x10 x11) hK72 hK133 (fun a0 x1 x2 x3 x4 x5 x7 x8 x9 x10 x11 S _ h => ih S a0 x1 x2 x3 x4 x5 x7 x8 x9 x10 x11 _ h) S a0 x1 x2 x3 x4 x5 x7 x8 x9 x10 x11 x9_ _ h
      · refine re_icmp_gt_f (pc := 171) 223 (by decide +kernel : decode cX13_layTwo 171 = .ok (.if_icmp .gt 52, 3)) (by decide) g11_ ?_
        refine re_aloadn (pc := 174) 1 (by decide +kernel : decode cX13_layTwo 174 = .ok (.aload_n 0, 1)) rfl ?_
        obtain ⟨a12_, g13_, h⟩ := rv_b_e h
        refine re_gR (pc := 175) g13_ lfX13_43 rfl (by decide +kernel : decode cX13_layTwo 175 = .ok (.getfield 43, 3)) ?_
        refine re_iload (pc := 178) 7 (by decide +kernel : decode cX13_layTwo 178 = .ok (.iload 7, 2)) rfl ?_
        refine re_iconst (pc := 180) (1 : Int32) (by decide +kernel : decode cX13_layTwo 180 = .ok (.iconst 1, 1)) (by decide) ?_
        refine re_iadd (pc := 181) (by decide +kernel : decode cX13_layTwo 181 = .ok (.iadd, 1)) ?_
        refine re_iload (pc := 182) 10 (by decide +kernel : decode cX13_layTwo 182 = .ok (.iload 10, 2)) rfl ?_
        refine re_iload (pc := 184) 8 (by decide +kernel : decode cX13_layTwo 184 = .ok (.iload 8, 2)) rfl ?_
        refine re_isub (pc := 186) (by decide +kernel : decode cX13_layTwo 186 = .ok (.isub, 1)) ?_
        refine re_iload (pc := 187) 11 (by decide +kernel : decode cX13_layTwo 187 = .ok (.iload 11, 2)) rfl ?_
        obtain ⟨x15_, g16_, h⟩ := rv_b_e h
        have m14_ := metX13_two n S (x7 + (1 : Int32)) (x10 - x8) x11 _ g16_
        refine re_cS (pc := 189) [.int (x7 + (1 : Int32)), .int (x10 - x8), .int x11] m14_ (rv_okl.k ⟨rfl, rfl⟩) (rv_up.rf _ _) (by decide) (Nat.le_of_ble_eq_true rfl) lSX13_332 rfl (by decide +kernel : decode cX13_layTwo 189 = .ok (.invokestatic 332, 3)) ?_
        obtain ⟨x17_, g18_, h⟩ := rv_b_e h
        refine re_aI (pc := 192) g18_ (by decide +kernel : decode cX13_layTwo 192 = .ok (.iaload, 1)) ?_
        refine re_iconst (pc := 193) (1 : Int32) (by decide +kernel : decode cX13_layTwo 193 = .ok (.iconst 1, 1)) (by decide) ?_
        refine re_iadd (pc := 194) (by decide +kernel : decode cX13_layTwo 194 = .ok (.iadd, 1)) ?_
        refine re_iload (pc := 195) 0 (by decide +kernel : decode cX13_layTwo 195 = .ok (.iload 12, 2)) rfl ?_
        rcases rv_if_e h with ⟨g19_, h⟩ | ⟨g19_, h⟩
        · refine re_icmp_ge_t (pc := 197) 223 (by decide +kernel : decode cX13_layTwo 197 = .ok (.if_icmp .ge 26, 3)) (by decide) g19_ ?_
          refine re_sub [1, 2, 3, 4, 5, 6, 7, 8, 9, 10, 11, 0] (lv1 := [(0, .ref a0), (1, .int x1), (2, .int x2), (3, .int x3), (4, .int x4), (5, .int x5), (7, .int x7), (8, .int x8), (9, .int x9), (10, .int x10), (11, .int x11), (12, .int x9_)]) rfl ?_
          exact eX13_layTwo_223 n K72 K133 (fun a0 x1 x2 x3 x4 x5 x7 x8 x9 x10 x11 S => cX13_layTwo_142 n K72 K133 k S a0 x1 x2 x3 x4 x5 x7 x8 x9 x10 x11) hK72 hK133 (fun a0 x1 x2 x3 x4 x5 x7 x8 x9 x10 x11 S _ h => ih S a0 x1 x2 x3 x4 x5 x7 x8 x9 x10 x11 _ h) S a0 x1 x2 x3 x4 x5 x7 x8 x9 x10 x11 x9_ _ h
        · refine re_icmp_ge_f (pc := 197) 223 (by decide +kernel : decode cX13_layTwo 197 = .ok (.if_icmp .ge 26, 3)) (by decide) g19_ ?_
          refine re_aloadn (pc := 200) 1 (by decide +kernel : decode cX13_layTwo 200 = .ok (.aload_n 0, 1)) rfl ?_
          obtain ⟨a20_, g21_, h⟩ := rv_b_e h
          refine re_gR (pc := 201) g21_ lfX13_43 rfl (by decide +kernel : decode cX13_layTwo 201 = .ok (.getfield 43, 3)) ?_
          refine re_iload (pc := 204) 7 (by decide +kernel : decode cX13_layTwo 204 = .ok (.iload 7, 2)) rfl ?_
          refine re_iconst (pc := 206) (1 : Int32) (by decide +kernel : decode cX13_layTwo 206 = .ok (.iconst 1, 1)) (by decide) ?_
          refine re_iadd (pc := 207) (by decide +kernel : decode cX13_layTwo 207 = .ok (.iadd, 1)) ?_
          refine re_iload (pc := 208) 10 (by decide +kernel : decode cX13_layTwo 208 = .ok (.iload 10, 2)) rfl ?_
          refine re_iload (pc := 210) 8 (by decide +kernel : decode cX13_layTwo 210 = .ok (.iload 8, 2)) rfl ?_
          refine re_isub (pc := 212) (by decide +kernel : decode cX13_layTwo 212 = .ok (.isub, 1)) ?_
          refine re_iload (pc := 213) 11 (by decide +kernel : decode cX13_layTwo 213 = .ok (.iload 11, 2)) rfl ?_
          obtain ⟨x23_, g24_, h⟩ := rv_b_e h
          have m22_ := metX13_two n S (x7 + (1 : Int32)) (x10 - x8) x11 _ g24_
          refine re_cS (pc := 215) [.int (x7 + (1 : Int32)), .int (x10 - x8), .int x11] m22_ (rv_okl.k ⟨rfl, rfl⟩) (rv_up.rf _ _) (by decide) (Nat.le_of_ble_eq_true rfl) lSX13_332 rfl (by decide +kernel : decode cX13_layTwo 215 = .ok (.invokestatic 332, 3)) ?_
          obtain ⟨x25_, g26_, h⟩ := rv_b_e h
          refine re_aI (pc := 218) g26_ (by decide +kernel : decode cX13_layTwo 218 = .ok (.iaload, 1)) ?_
          refine re_iconst (pc := 219) (1 : Int32) (by decide +kernel : decode cX13_layTwo 219 = .ok (.iconst 1, 1)) (by decide) ?_
          refine re_iadd (pc := 220) (by decide +kernel : decode cX13_layTwo 220 = .ok (.iadd, 1)) ?_
          obtain ⟨x27_, g28_, h⟩ := rv_lt_e h
          refine re_nI (pc := 221) g28_ ?_
          refine re_istore (pc := 221) (lv1 := [(12, .int x27_), (0, .ref a0), (1, .int x1), (2, .int x2), (3, .int x3), (4, .int x4), (5, .int x5), (7, .int x7), (8, .int x8), (9, .int x9), (10, .int x10), (11, .int x11)]) (by decide +kernel : decode cX13_layTwo 221 = .ok (.istore 12, 2)) (by decide) rfl ?_
          refine re_sub [1, 2, 3, 4, 5, 6, 7, 8, 9, 10, 11, 0] (lv1 := [(0, .ref a0), (1, .int x1), (2, .int x2), (3, .int x3), (4, .int x4), (5, .int x5), (7, .int x7), (8, .int x8), (9, .int x9), (10, .int x10), (11, .int x11), (12, .int x27_)]) rfl ?_
          exact eX13_layTwo_223 n K72 K133 (fun a0 x1 x2 x3 x4 x5 x7 x8 x9 x10 x11 S => cX13_layTwo_142 n K72 K133 k S a0 x1 x2 x3 x4 x5 x7 x8 x9 x10 x11) hK72 hK133 (fun a0 x1 x2 x3 x4 x5 x7 x8 x9 x10 x11 S _ h => ih S a0 x1 x2 x3 x4 x5 x7 x8 x9 x10 x11 _ h) S a0 x1 x2 x3 x4 x5 x7 x8 x9 x10 x11 x27_ _ h
noncomputable def cX13_layTwo_133 (n : Nat) (K72 : Nat → Int32 → Int32 → Int32 → Int32 → Int32 → Int32 → rvS → Option rvS) : Nat → rvS → Nat → Int32 → Int32 → Int32 → Int32 → Int32 → Int32 → Int32 → Int32 → Int32 → Option rvS
  | 0, _, _, _, _, _, _, _, _, _, _, _ => none
  | k + 1, S, a0, x1, x2, x3, x4, x5, x7, x8, x9, x10 =>
    if x3 < x10 then (
      rv_lt (x7 + (-1)) fun x2_ =>
      K72 a0 x1 x2 x3 x4 x5 x2_ S)
    else (
      cX13_layTwo_142 n K72 (fun a0 x1 x2 x3 x4 x5 x7 x8 x9 x10 S => cX13_layTwo_133 n K72 k S a0 x1 x2 x3 x4 x5 x7 x8 x9 x10) n S a0 x1 x2 x3 x4 x5 x7 x8 x9 x10 (0 : Int32))
set_option maxRecDepth 20000 in
set_option maxHeartbeats 4000000 in
theorem eX13_layTwo_133 (n : Nat) (K72 : Nat → Int32 → Int32 → Int32 → Int32 → Int32 → Int32 → rvS → Option rvS) (hK72 : ∀ (a0 : Nat) (x1 : Int32) (x2 : Int32) (x3 : Int32) (x4 : Int32) (x5 : Int32) (x7 : Int32) (S : rvS) (S' : rvS), K72 a0 x1 x2 x3 x4 x5 x7 S = some S' → rv_Ev mX13_layTwo 5 72 [(0, .ref a0), (1, .int x1), (2, .int x2), (3, .int x3), (4, .int x4), (5, .int x5), (7, .int x7)] [] S none S') : ∀ (k : Nat) (S : rvS) (a0 : Nat) (x1 : Int32) (x2 : Int32) (x3 : Int32) (x4 : Int32) (x5 : Int32) (x7 : Int32) (x8 : Int32) (x9 : Int32) (x10 : Int32) (S' : rvS), cX13_layTwo_133 n K72 k S a0 x1 x2 x3 x4 x5 x7 x8 x9 x10 = some S' → rv_Ev mX13_layTwo 5 133 [(0, .ref a0), (1, .int x1), (2, .int x2), (3, .int x3), (4, .int x4), (5, .int x5), (7, .int x7), (8, .int x8), (9, .int x9), (10, .int x10)] [] S none S' := by
  intro k
  induction k with
  | zero => intro S a0 x1 x2 x3 x4 x5 x7 x8 x9 x10 S' h; exact absurd h (by simp [cX13_layTwo_133])
  | succ k ih =>
    intro S a0 x1 x2 x3 x4 x5 x7 x8 x9 x10 S' h
    unfold cX13_layTwo_133 at h
    refine re_iload (pc := 133) 9 (by decide +kernel : decode cX13_layTwo 133 = .ok (.iload 10, 2)) rfl ?_
    refine re_iloadn (pc := 135) 3 (by decide +kernel : decode cX13_layTwo 135 = .ok (.iload_n 3, 1)) rfl ?_
    rcases rv_if_e h with ⟨g1_, h⟩ | ⟨g1_, h⟩
    · refine re_icmp_gt_t (pc := 136) 303 (by decide +kernel : decode cX13_layTwo 136 = .ok (.if_icmp .gt 167, 3)) (by decide) g1_ ?_
      obtain ⟨x2_, g3_, h⟩ := rv_lt_e h
      refine re_iinc (pc := 303) 6 x2_ (lv1 := [(7, .int x2_), (0, .ref a0), (1, .int x1), (2, .int x2), (3, .int x3), (4, .int x4), (5, .int x5), (8, .int x8), (9, .int x9), (10, .int x10)]) (by decide +kernel : decode cX13_layTwo 303 = .ok (.iinc 7 (-1), 3)) rfl g3_ (by decide) rfl ?_
      refine re_goto (pc := 306) 72 (by decide +kernel : decode cX13_layTwo 306 = .ok (.goto (-234), 3)) (by decide) ?_
      refine re_sub [1, 2, 3, 4, 5, 6, 0] (lv1 := [(0, .ref a0), (1, .int x1), (2, .int x2), (3, .int x3), (4, .int x4), (5, .int x5), (7, .int x2_)]) rfl ?_
      exact hK72 a0 x1 x2 x3 x4 x5 x2_ S _ h
    · refine re_icmp_gt_f (pc := 136) 303 (by decide +kernel : decode cX13_layTwo 136 = .ok (.if_icmp .gt 167, 3)) (by decide) g1_ ?_
      refine re_iconst (pc := 139) (0 : Int32) (by decide +kernel : decode cX13_layTwo 139 = .ok (.iconst 0, 1)) (by decide) ?_
      refine re_istore (pc := 140) (lv1 := [(11, .int (0 : Int32)), (0, .ref a0), (1, .int x1), (2, .int x2), (3, .int x3), (4, .int x4), (5, .int x5), (7, .int x7), (8, .int x8), (9, .int x9), (10, .int x10)]) (by decide +kernel : decode cX13_layTwo 140 = .ok (.istore 11, 2)) (by decide) rfl ?_
      refine re_sub [1, 2, 3, 4, 5, 6, 7, 8, 9, 10, 0] (lv1 := [(0, .ref a0), (1, .int x1), (2, .int x2), (3, .int x3), (4, .int x4), (5, .int x5), (7, .int x7), (8, .int x8), (9, .int x9), (10, .int x10), (11, .int (0 : Int32))]) rfl ?_
      exact eX13_layTwo_142 n K72 (fun a0 x1 x2 x3 x4 x5 x7 x8 x9 x10 S => cX13_layTwo_133 n K72 k S a0 x1 x2 x3 x4 x5 x7 x8 x9 x10) hK72 (fun a0 x1 x2 x3 x4 x5 x7 x8 x9 x10 S _ h => ih S a0 x1 x2 x3 x4 x5 x7 x8 x9 x10 _ h) n S a0 x1 x2 x3 x4 x5 x7 x8 x9 x10 (0 : Int32) _ h
noncomputable def cX13_layTwo_101 (n : Nat) (K72 : Nat → Int32 → Int32 → Int32 → Int32 → Int32 → Int32 → rvS → Option rvS) (S : rvS) (a0 : Nat) (x1 : Int32) (x2 : Int32) (x3 : Int32) (x4 : Int32) (x5 : Int32) (x7 : Int32) (t0 : Int32) : Option rvS :=
  (rv_ck S 11 a0).bind fun u1_ =>
  rv_bp (fnX13_isFor n S a0 x7 x1 x4) fun x4_ S5_ =>
  if x4_ = 0 then (
    cX13_layTwo_133 n K72 n S5_ a0 x1 x2 x3 x4 x5 x7 t0 (1000 : Int32) (0 : Int32))
  else (
    (rv_ck S5_ 11 a0).bind fun u9_ =>
    (fnX13_ofCoin n S5_ a0 x7 (0 : Int32)).bind fun x12_ =>
    cX13_layTwo_133 n K72 n S5_ a0 x1 x2 x3 x4 x5 x7 t0 x12_ (0 : Int32))
set_option maxRecDepth 20000 in
set_option maxHeartbeats 4000000 in
theorem eX13_layTwo_101 (n : Nat) (K72 : Nat → Int32 → Int32 → Int32 → Int32 → Int32 → Int32 → rvS → Option rvS) (hK72 : ∀ (a0 : Nat) (x1 : Int32) (x2 : Int32) (x3 : Int32) (x4 : Int32) (x5 : Int32) (x7 : Int32) (S : rvS) (S' : rvS), K72 a0 x1 x2 x3 x4 x5 x7 S = some S' → rv_Ev mX13_layTwo 5 72 [(0, .ref a0), (1, .int x1), (2, .int x2), (3, .int x3), (4, .int x4), (5, .int x5), (7, .int x7)] [] S none S') (S : rvS) (a0 : Nat) (x1 : Int32) (x2 : Int32) (x3 : Int32) (x4 : Int32) (x5 : Int32) (x7 : Int32) (t0 : Int32) (S' : rvS) (h : cX13_layTwo_101 n K72 S a0 x1 x2 x3 x4 x5 x7 t0 = some S') : rv_Ev mX13_layTwo 5 101 [(0, .ref a0), (1, .int x1), (2, .int x2), (3, .int x3), (4, .int x4), (5, .int x5), (7, .int x7)] [.int t0] S none S' := by
  unfold cX13_layTwo_101 at h
  refine re_istore (pc := 101) (lv1 := [(8, .int t0), (0, .ref a0), (1, .int x1), (2, .int x2), (3, .int x3), (4, .int x4), (5, .int x5), (7, .int x7)]) (by decide +kernel : decode cX13_layTwo 101 = .ok (.istore 8, 2)) (by decide) rfl ?_
  refine re_aloadn (pc := 103) 1 (by decide +kernel : decode cX13_layTwo 103 = .ok (.aload_n 0, 1)) rfl ?_
  refine re_iload (pc := 104) 7 (by decide +kernel : decode cX13_layTwo 104 = .ok (.iload 7, 2)) rfl ?_
  refine re_iloadn (pc := 106) 2 (by decide +kernel : decode cX13_layTwo 106 = .ok (.iload_n 1, 1)) rfl ?_
  refine re_iload (pc := 107) 5 (by decide +kernel : decode cX13_layTwo 107 = .ok (.iload 4, 2)) rfl ?_
  obtain ⟨u1_, g2_, h⟩ := rv_b_e h
  obtain ⟨x4_, S5_, g6_, h⟩ := rv_bp_e h
  have m3_ := metX13_isFor n S a0 x7 x1 x4 _ _ g6_
  have z7_ : rv_same S S5_ := m3_.sh rfl
  refine re_cV (pc := 109) [.int x7, .int x1, .int x4] m3_ (rv_okl.k z7_) (rv_up.sh z7_) (by decide) (rv_ck_e g2_) ⟨by decide, rfl⟩ (Nat.le_of_ble_eq_true rfl) lVX13_313 rfl (by decide +kernel : decode cX13_layTwo 109 = .ok (.invokevirtual 313, 3)) ?_
  rcases rv_if_e h with ⟨g8_, h⟩ | ⟨g8_, h⟩
  · refine re_if_eq_t (pc := 112) 125 (by decide +kernel : decode cX13_layTwo 112 = .ok (.ifCond .eq 13, 3)) (by decide) g8_ ?_
    refine re_sipush (pc := 125) (1000 : Int32) (by decide +kernel : decode cX13_layTwo 125 = .ok (.sipush 1000, 3)) (by decide) ?_
    refine re_istore (pc := 128) (lv1 := [(9, .int (1000 : Int32)), (8, .int t0), (0, .ref a0), (1, .int x1), (2, .int x2), (3, .int x3), (4, .int x4), (5, .int x5), (7, .int x7)]) (by decide +kernel : decode cX13_layTwo 128 = .ok (.istore 9, 2)) (by decide) rfl ?_
    refine re_iconst (pc := 130) (0 : Int32) (by decide +kernel : decode cX13_layTwo 130 = .ok (.iconst 0, 1)) (by decide) ?_
    refine re_istore (pc := 131) (lv1 := [(10, .int (0 : Int32)), (9, .int (1000 : Int32)), (8, .int t0), (0, .ref a0), (1, .int x1), (2, .int x2), (3, .int x3), (4, .int x4), (5, .int x5), (7, .int x7)]) (by decide +kernel : decode cX13_layTwo 131 = .ok (.istore 10, 2)) (by decide) rfl ?_
    refine re_sub [3, 4, 5, 6, 7, 8, 9, 2, 1, 0] (lv1 := [(0, .ref a0), (1, .int x1), (2, .int x2), (3, .int x3), (4, .int x4), (5, .int x5), (7, .int x7), (8, .int t0), (9, .int (1000 : Int32)), (10, .int (0 : Int32))]) rfl ?_
    exact eX13_layTwo_133 n K72 hK72 n S5_ a0 x1 x2 x3 x4 x5 x7 t0 (1000 : Int32) (0 : Int32) _ h
  · refine re_if_eq_f (pc := 112) 125 (by decide +kernel : decode cX13_layTwo 112 = .ok (.ifCond .eq 13, 3)) (by decide) g8_ ?_
    refine re_aloadn (pc := 115) 1 (by decide +kernel : decode cX13_layTwo 115 = .ok (.aload_n 0, 1)) rfl ?_
    refine re_iload (pc := 116) 7 (by decide +kernel : decode cX13_layTwo 116 = .ok (.iload 7, 2)) rfl ?_
    refine re_iconst (pc := 118) (0 : Int32) (by decide +kernel : decode cX13_layTwo 118 = .ok (.iconst 0, 1)) (by decide) ?_
    obtain ⟨u9_, g10_, h⟩ := rv_b_e h
    obtain ⟨x12_, g13_, h⟩ := rv_b_e h
    have m11_ := metX13_ofCoin n S5_ a0 x7 (0 : Int32) _ g13_
    refine re_cV (pc := 119) [.int x7, .int (0 : Int32)] m11_ (rv_okl.k ⟨rfl, rfl⟩) (rv_up.rf _ _) (by decide) (rv_ck_e g10_) ⟨by decide, rfl⟩ (Nat.le_of_ble_eq_true rfl) lVX13_271 rfl (by decide +kernel : decode cX13_layTwo 119 = .ok (.invokevirtual 271, 3)) ?_
    refine re_goto (pc := 122) 128 (by decide +kernel : decode cX13_layTwo 122 = .ok (.goto 6, 3)) (by decide) ?_
    refine re_istore (pc := 128) (lv1 := [(9, .int x12_), (8, .int t0), (0, .ref a0), (1, .int x1), (2, .int x2), (3, .int x3), (4, .int x4), (5, .int x5), (7, .int x7)]) (by decide +kernel : decode cX13_layTwo 128 = .ok (.istore 9, 2)) (by decide) rfl ?_
    refine re_iconst (pc := 130) (0 : Int32) (by decide +kernel : decode cX13_layTwo 130 = .ok (.iconst 0, 1)) (by decide) ?_
    refine re_istore (pc := 131) (lv1 := [(10, .int (0 : Int32)), (9, .int x12_), (8, .int t0), (0, .ref a0), (1, .int x1), (2, .int x2), (3, .int x3), (4, .int x4), (5, .int x5), (7, .int x7)]) (by decide +kernel : decode cX13_layTwo 131 = .ok (.istore 10, 2)) (by decide) rfl ?_
    refine re_sub [3, 4, 5, 6, 7, 8, 9, 2, 1, 0] (lv1 := [(0, .ref a0), (1, .int x1), (2, .int x2), (3, .int x3), (4, .int x4), (5, .int x5), (7, .int x7), (8, .int t0), (9, .int x12_), (10, .int (0 : Int32))]) rfl ?_
    exact eX13_layTwo_133 n K72 hK72 n S5_ a0 x1 x2 x3 x4 x5 x7 t0 x12_ (0 : Int32) _ h
noncomputable def cX13_layTwo_72 (n : Nat) : Nat → rvS → Nat → Int32 → Int32 → Int32 → Int32 → Int32 → Int32 → Option rvS
  | 0, _, _, _, _, _, _, _, _ => none
  | k + 1, S, a0, x1, x2, x3, x4, x5, x7 =>
    if x7 < 0 then (
      some S)
    else (
      (rv_ck S 11 a0).bind fun u2_ =>
      rv_bp (fnX13_isFor n S a0 x7 x1 x2) fun x5_ S6_ =>
      if x5_ = 0 then (
        cX13_layTwo_101 n (fun a0 x1 x2 x3 x4 x5 x7 S => cX13_layTwo_72 n k S a0 x1 x2 x3 x4 x5 x7) S6_ a0 x1 x2 x3 x4 x5 x7 (1000 : Int32))
      else (
        (rv_ck S6_ 11 a0).bind fun u10_ =>
        (fnX13_ofCoin n S6_ a0 x7 (0 : Int32)).bind fun x13_ =>
        cX13_layTwo_101 n (fun a0 x1 x2 x3 x4 x5 x7 S => cX13_layTwo_72 n k S a0 x1 x2 x3 x4 x5 x7) S6_ a0 x1 x2 x3 x4 x5 x7 x13_))
set_option maxRecDepth 20000 in
set_option maxHeartbeats 4000000 in
theorem eX13_layTwo_72 (n : Nat) : ∀ (k : Nat) (S : rvS) (a0 : Nat) (x1 : Int32) (x2 : Int32) (x3 : Int32) (x4 : Int32) (x5 : Int32) (x7 : Int32) (S' : rvS), cX13_layTwo_72 n k S a0 x1 x2 x3 x4 x5 x7 = some S' → rv_Ev mX13_layTwo 5 72 [(0, .ref a0), (1, .int x1), (2, .int x2), (3, .int x3), (4, .int x4), (5, .int x5), (7, .int x7)] [] S none S' := by
  intro k
  induction k with
  | zero => intro S a0 x1 x2 x3 x4 x5 x7 S' h; exact absurd h (by simp [cX13_layTwo_72])
  | succ k ih =>
    intro S a0 x1 x2 x3 x4 x5 x7 S' h
    unfold cX13_layTwo_72 at h
    refine re_iload (pc := 72) 6 (by decide +kernel : decode cX13_layTwo 72 = .ok (.iload 7, 2)) rfl ?_
    rcases rv_if_e h with ⟨g1_, h⟩ | ⟨g1_, h⟩
    · refine re_if_lt_t (pc := 74) 309 (by decide +kernel : decode cX13_layTwo 74 = .ok (.ifCond .lt 235, 3)) (by decide) g1_ ?_
      cases h
      exact re_vret (by decide +kernel : decode cX13_layTwo 309 = .ok (.return_, 1))
    · refine re_if_lt_f (pc := 74) 309 (by decide +kernel : decode cX13_layTwo 74 = .ok (.ifCond .lt 235, 3)) (by decide) g1_ ?_
      refine re_aloadn (pc := 77) 0 (by decide +kernel : decode cX13_layTwo 77 = .ok (.aload_n 0, 1)) rfl ?_
      refine re_iload (pc := 78) 6 (by decide +kernel : decode cX13_layTwo 78 = .ok (.iload 7, 2)) rfl ?_
      refine re_iloadn (pc := 80) 1 (by decide +kernel : decode cX13_layTwo 80 = .ok (.iload_n 1, 1)) rfl ?_
      refine re_iloadn (pc := 81) 2 (by decide +kernel : decode cX13_layTwo 81 = .ok (.iload_n 2, 1)) rfl ?_
      obtain ⟨u2_, g3_, h⟩ := rv_b_e h
      obtain ⟨x5_, S6_, g7_, h⟩ := rv_bp_e h
      have m4_ := metX13_isFor n S a0 x7 x1 x2 _ _ g7_
      have z8_ : rv_same S S6_ := m4_.sh rfl
      refine re_cV (pc := 82) [.int x7, .int x1, .int x2] m4_ (rv_okl.k z8_) (rv_up.sh z8_) (by decide) (rv_ck_e g3_) ⟨by decide, rfl⟩ (Nat.le_of_ble_eq_true rfl) lVX13_313 rfl (by decide +kernel : decode cX13_layTwo 82 = .ok (.invokevirtual 313, 3)) ?_
      rcases rv_if_e h with ⟨g9_, h⟩ | ⟨g9_, h⟩
      · refine re_if_eq_t (pc := 85) 98 (by decide +kernel : decode cX13_layTwo 85 = .ok (.ifCond .eq 13, 3)) (by decide) g9_ ?_
        refine re_sipush (pc := 98) (1000 : Int32) (by decide +kernel : decode cX13_layTwo 98 = .ok (.sipush 1000, 3)) (by decide) ?_
        exact eX13_layTwo_101 n (fun a0 x1 x2 x3 x4 x5 x7 S => cX13_layTwo_72 n k S a0 x1 x2 x3 x4 x5 x7) (fun a0 x1 x2 x3 x4 x5 x7 S _ h => ih S a0 x1 x2 x3 x4 x5 x7 _ h) S6_ a0 x1 x2 x3 x4 x5 x7 (1000 : Int32) _ h
      · refine re_if_eq_f (pc := 85) 98 (by decide +kernel : decode cX13_layTwo 85 = .ok (.ifCond .eq 13, 3)) (by decide) g9_ ?_
        refine re_aloadn (pc := 88) 0 (by decide +kernel : decode cX13_layTwo 88 = .ok (.aload_n 0, 1)) rfl ?_
        refine re_iload (pc := 89) 6 (by decide +kernel : decode cX13_layTwo 89 = .ok (.iload 7, 2)) rfl ?_
        refine re_iconst (pc := 91) (0 : Int32) (by decide +kernel : decode cX13_layTwo 91 = .ok (.iconst 0, 1)) (by decide) ?_
        obtain ⟨u10_, g11_, h⟩ := rv_b_e h
        obtain ⟨x13_, g14_, h⟩ := rv_b_e h
        have m12_ := metX13_ofCoin n S6_ a0 x7 (0 : Int32) _ g14_
        refine re_cV (pc := 92) [.int x7, .int (0 : Int32)] m12_ (rv_okl.k ⟨rfl, rfl⟩) (rv_up.rf _ _) (by decide) (rv_ck_e g11_) ⟨by decide, rfl⟩ (Nat.le_of_ble_eq_true rfl) lVX13_271 rfl (by decide +kernel : decode cX13_layTwo 92 = .ok (.invokevirtual 271, 3)) ?_
        refine re_goto (pc := 95) 101 (by decide +kernel : decode cX13_layTwo 95 = .ok (.goto 6, 3)) (by decide) ?_
        exact eX13_layTwo_101 n (fun a0 x1 x2 x3 x4 x5 x7 S => cX13_layTwo_72 n k S a0 x1 x2 x3 x4 x5 x7) (fun a0 x1 x2 x3 x4 x5 x7 S _ h => ih S a0 x1 x2 x3 x4 x5 x7 _ h) S6_ a0 x1 x2 x3 x4 x5 x7 x13_ _ h
noncomputable def cX13_layTwo_9 (n : Nat) : Nat → rvS → Nat → Int32 → Int32 → Int32 → Int32 → Int32 → Int32 → Int32 → Option rvS
  | 0, _, _, _, _, _, _, _, _, _ => none
  | k + 1, S, a0, x1, x2, x3, x4, x5, x6, x7 =>
    if x3 < x7 then (
      rv_lt (x6 - (1 : Int32)) fun x2_ =>
      cX13_layTwo_72 n n S a0 x1 x2 x3 x4 x5 x2_)
    else (
      cX13_layTwo_18 n (fun a0 x1 x2 x3 x4 x5 x6 x7 S => cX13_layTwo_9 n k S a0 x1 x2 x3 x4 x5 x6 x7) n S a0 x1 x2 x3 x4 x5 x6 x7 (0 : Int32))
set_option maxRecDepth 20000 in
set_option maxHeartbeats 4000000 in
theorem eX13_layTwo_9 (n : Nat) : ∀ (k : Nat) (S : rvS) (a0 : Nat) (x1 : Int32) (x2 : Int32) (x3 : Int32) (x4 : Int32) (x5 : Int32) (x6 : Int32) (x7 : Int32) (S' : rvS), cX13_layTwo_9 n k S a0 x1 x2 x3 x4 x5 x6 x7 = some S' → rv_Ev mX13_layTwo 5 9 [(0, .ref a0), (1, .int x1), (2, .int x2), (3, .int x3), (4, .int x4), (5, .int x5), (6, .int x6), (7, .int x7)] [] S none S' := by
  intro k
  induction k with
  | zero => intro S a0 x1 x2 x3 x4 x5 x6 x7 S' h; exact absurd h (by simp [cX13_layTwo_9])
  | succ k ih =>
    intro S a0 x1 x2 x3 x4 x5 x6 x7 S' h
    unfold cX13_layTwo_9 at h
    refine re_iload (pc := 9) 7 (by decide +kernel : decode cX13_layTwo 9 = .ok (.iload 7, 2)) rfl ?_
    refine re_iloadn (pc := 11) 3 (by decide +kernel : decode cX13_layTwo 11 = .ok (.iload_n 3, 1)) rfl ?_
    rcases rv_if_e h with ⟨g1_, h⟩ | ⟨g1_, h⟩
    · refine re_icmp_gt_t (pc := 12) 66 (by decide +kernel : decode cX13_layTwo 12 = .ok (.if_icmp .gt 54, 3)) (by decide) g1_ ?_
      refine re_iload (pc := 66) 6 (by decide +kernel : decode cX13_layTwo 66 = .ok (.iload 6, 2)) rfl ?_
      refine re_iconst (pc := 68) (1 : Int32) (by decide +kernel : decode cX13_layTwo 68 = .ok (.iconst 1, 1)) (by decide) ?_
      refine re_isub (pc := 69) (by decide +kernel : decode cX13_layTwo 69 = .ok (.isub, 1)) ?_
      obtain ⟨x2_, g3_, h⟩ := rv_lt_e h
      refine re_nI (pc := 70) g3_ ?_
      refine re_istore (pc := 70) (lv1 := [(7, .int x2_), (0, .ref a0), (1, .int x1), (2, .int x2), (3, .int x3), (4, .int x4), (5, .int x5), (6, .int x6)]) (by decide +kernel : decode cX13_layTwo 70 = .ok (.istore 7, 2)) (by decide) rfl ?_
      refine re_sub [1, 2, 3, 4, 5, 6, 0] (lv1 := [(0, .ref a0), (1, .int x1), (2, .int x2), (3, .int x3), (4, .int x4), (5, .int x5), (7, .int x2_)]) rfl ?_
      exact eX13_layTwo_72 n n S a0 x1 x2 x3 x4 x5 x2_ _ h
    · refine re_icmp_gt_f (pc := 12) 66 (by decide +kernel : decode cX13_layTwo 12 = .ok (.if_icmp .gt 54, 3)) (by decide) g1_ ?_
      refine re_iconst (pc := 15) (0 : Int32) (by decide +kernel : decode cX13_layTwo 15 = .ok (.iconst 0, 1)) (by decide) ?_
      refine re_istore (pc := 16) (lv1 := [(8, .int (0 : Int32)), (0, .ref a0), (1, .int x1), (2, .int x2), (3, .int x3), (4, .int x4), (5, .int x5), (6, .int x6), (7, .int x7)]) (by decide +kernel : decode cX13_layTwo 16 = .ok (.istore 8, 2)) (by decide) rfl ?_
      refine re_sub [1, 2, 3, 4, 5, 6, 7, 8, 0] (lv1 := [(0, .ref a0), (1, .int x1), (2, .int x2), (3, .int x3), (4, .int x4), (5, .int x5), (6, .int x6), (7, .int x7), (8, .int (0 : Int32))]) rfl ?_
      exact eX13_layTwo_18 n (fun a0 x1 x2 x3 x4 x5 x6 x7 S => cX13_layTwo_9 n k S a0 x1 x2 x3 x4 x5 x6 x7) (fun a0 x1 x2 x3 x4 x5 x6 x7 S _ h => ih S a0 x1 x2 x3 x4 x5 x6 x7 _ h) n S a0 x1 x2 x3 x4 x5 x6 x7 (0 : Int32) _ h
noncomputable def fnX13_layTwo (n : Nat) (S : rvS) (a0 : Nat) (x1 : Int32) (x2 : Int32) (x3 : Int32) (x4 : Int32) (x5 : Int32) : Option rvS :=
  (rv_ck S 11 a0).bind fun u1_ =>
  (fnX13_coins n S a0).bind fun x4_ =>
  cX13_layTwo_9 n n S a0 x1 x2 x3 x4 x5 x4_ (0 : Int32)
set_option maxRecDepth 20000 in
set_option maxHeartbeats 4000000 in
theorem eX13_layTwo_in (n : Nat) (S : rvS) (a0 : Nat) (x1 : Int32) (x2 : Int32) (x3 : Int32) (x4 : Int32) (x5 : Int32) (S' : rvS) (h : fnX13_layTwo n S a0 x1 x2 x3 x4 x5 = some S') : rv_Ev mX13_layTwo 5 0 [(0, .ref a0), (1, .int x1), (2, .int x2), (3, .int x3), (4, .int x4), (5, .int x5)] [] S none S' := by
  unfold fnX13_layTwo at h
  refine re_aloadn (pc := 0) 0 (by decide +kernel : decode cX13_layTwo 0 = .ok (.aload_n 0, 1)) rfl ?_
  obtain ⟨u1_, g2_, h⟩ := rv_b_e h
  obtain ⟨x4_, g5_, h⟩ := rv_b_e h
  have m3_ := metX13_coins n S a0 _ g5_
  refine re_cV (pc := 1) [] m3_ (rv_okl.k ⟨rfl, rfl⟩) (rv_up.rf _ _) (by decide) (rv_ck_e g2_) ⟨by decide, rfl⟩ (Nat.le_of_ble_eq_true rfl) lVX13_258 rfl (by decide +kernel : decode cX13_layTwo 1 = .ok (.invokevirtual 258, 3)) ?_
  refine re_istore (pc := 4) (lv1 := [(6, .int x4_), (0, .ref a0), (1, .int x1), (2, .int x2), (3, .int x3), (4, .int x4), (5, .int x5)]) (by decide +kernel : decode cX13_layTwo 4 = .ok (.istore 6, 2)) (by decide) rfl ?_
  refine re_iconst (pc := 6) (0 : Int32) (by decide +kernel : decode cX13_layTwo 6 = .ok (.iconst 0, 1)) (by decide) ?_
  refine re_istore (pc := 7) (lv1 := [(7, .int (0 : Int32)), (6, .int x4_), (0, .ref a0), (1, .int x1), (2, .int x2), (3, .int x3), (4, .int x4), (5, .int x5)]) (by decide +kernel : decode cX13_layTwo 7 = .ok (.istore 7, 2)) (by decide) rfl ?_
  refine re_sub [2, 3, 4, 5, 6, 7, 1, 0] (lv1 := [(0, .ref a0), (1, .int x1), (2, .int x2), (3, .int x3), (4, .int x4), (5, .int x5), (6, .int x4_), (7, .int (0 : Int32))]) rfl ?_
  exact eX13_layTwo_9 n n S a0 x1 x2 x3 x4 x5 x4_ (0 : Int32) _ h
theorem metX13_layTwo (n : Nat) (S : rvS) (a0 : Nat) (x1 : Int32) (x2 : Int32) (x3 : Int32) (x4 : Int32) (x5 : Int32) (S' : rvS) (h : fnX13_layTwo n S a0 x1 x2 x3 x4 x5 = some S') : rv_Met yX13_layTwo mX13_layTwo 5 [.ref a0, .int x1, .int x2, .int x3, .int x4, .int x5] S none S' := rv_Met.of ⟨by decide +kernel, rfl, (fun z => by first | rfl | cases z), rfl⟩ (Nat.le_of_ble_eq_true rfl) rfl (eX13_layTwo_in n S a0 x1 x2 x3 x4 x5 S' h)
noncomputable def cX13_canGive_62 (n : Nat) (K6 : Nat → Int32 → Int32 → Int32 → Int32 → Int32 → Int32 → rvS → Option (Int32 × rvS)) (S : rvS) (a0 : Nat) (x1 : Int32) (x2 : Int32) (x3 : Int32) (x4 : Int32) (x5 : Int32) (x6 : Int32) (t0 : Nat) (t1 : Int32) (t2 : Int32) : Option (Int32 × rvS) :=
  (rv_uZ S t0 t1 t2).bind fun S1_ =>
  if x5 = 0 then (
    (rv_gR S1_ 11 a0 30).bind fun a6_ =>
    (rv_aI S1_ 3 a6_ x6).bind fun x8_ =>
    if x8_ = 0 then (
      rv_lt (x6 + (1)) fun x11_ =>
      K6 a0 x1 x2 x3 x4 (0 : Int32) x11_ S1_)
    else (
      rv_lt (x6 + (1)) fun x13_ =>
      K6 a0 x1 x2 x3 x4 (1 : Int32) x13_ S1_))
  else (
    rv_lt (x6 + (1)) fun x4_ =>
    K6 a0 x1 x2 x3 x4 (1 : Int32) x4_ S1_)
set_option maxRecDepth 20000 in
set_option maxHeartbeats 4000000 in
theorem eX13_canGive_62 (n : Nat) (K6 : Nat → Int32 → Int32 → Int32 → Int32 → Int32 → Int32 → rvS → Option (Int32 × rvS)) (hK6 : ∀ (a0 : Nat) (x1 : Int32) (x2 : Int32) (x3 : Int32) (x4 : Int32) (x5 : Int32) (x6 : Int32) (S : rvS) (r : Int32) (S' : rvS), K6 a0 x1 x2 x3 x4 x5 x6 S = some (r, S') → rv_Ev mX13_canGive 1 6 [(0, .ref a0), (1, .int x1), (2, .int x2), (3, .int x3), (4, .int x4), (5, .int x5), (6, .int x6)] [] S (some (.int r)) S') (S : rvS) (a0 : Nat) (x1 : Int32) (x2 : Int32) (x3 : Int32) (x4 : Int32) (x5 : Int32) (x6 : Int32) (t0 : Nat) (t1 : Int32) (t2 : Int32) (r : Int32) (S' : rvS) (h : cX13_canGive_62 n K6 S a0 x1 x2 x3 x4 x5 x6 t0 t1 t2 = some (r, S')) : rv_Ev mX13_canGive 1 62 [(0, .ref a0), (1, .int x1), (2, .int x2), (3, .int x3), (4, .int x4), (5, .int x5), (6, .int x6)] [.int t2, .int t1, .ref t0] S (some (.int r)) S' := by
  unfold cX13_canGive_62 at h
  obtain ⟨S1_, g2_, h⟩ := rv_b_e h
  refine re_uZ (pc := 62) g2_ (by decide +kernel : decode cX13_canGive 62 = .ok (.bastore, 1)) ?_
  refine re_iload (pc := 63) 5 (by decide +kernel : decode cX13_canGive 63 = .ok (.iload 5, 2)) rfl ?_
  rcases rv_if_e h with ⟨g3_, h⟩ | ⟨g3_, h⟩
  · refine re_if_ne_f (pc := 65) 78 (by decide +kernel : decode cX13_canGive 65 = .ok (.ifCond .ne 13, 3)) (by decide) g3_ ?_
    refine re_aloadn (pc := 68) 0 (by decide +kernel : decode cX13_canGive 68 = .ok (.aload_n 0, 1)) rfl ?_
    obtain ⟨a6_, g7_, h⟩ := rv_b_e h
    refine re_gR (pc := 69) g7_ lfX13_59 rfl (by decide +kernel : decode cX13_canGive 69 = .ok (.getfield 59, 3)) ?_
    refine re_iload (pc := 72) 6 (by decide +kernel : decode cX13_canGive 72 = .ok (.iload 6, 2)) rfl ?_
    obtain ⟨x8_, g9_, h⟩ := rv_b_e h
    refine re_aZ (pc := 74) g9_ (by decide +kernel : decode cX13_canGive 74 = .ok (.baload, 1)) ?_
    rcases rv_if_e h with ⟨g10_, h⟩ | ⟨g10_, h⟩
    · refine re_if_eq_t (pc := 75) 82 (by decide +kernel : decode cX13_canGive 75 = .ok (.ifCond .eq 7, 3)) (by decide) g10_ ?_
      refine re_iconst (pc := 82) (0 : Int32) (by decide +kernel : decode cX13_canGive 82 = .ok (.iconst 0, 1)) (by decide) ?_
      refine re_istore (pc := 83) (lv1 := [(5, .int (0 : Int32)), (0, .ref a0), (1, .int x1), (2, .int x2), (3, .int x3), (4, .int x4), (6, .int x6)]) (by decide +kernel : decode cX13_canGive 83 = .ok (.istore 5, 2)) (by decide) rfl ?_
      obtain ⟨x11_, g12_, h⟩ := rv_lt_e h
      refine re_iinc (pc := 85) 6 x11_ (lv1 := [(6, .int x11_), (5, .int (0 : Int32)), (0, .ref a0), (1, .int x1), (2, .int x2), (3, .int x3), (4, .int x4)]) (by decide +kernel : decode cX13_canGive 85 = .ok (.iinc 6 1, 3)) rfl g12_ (by decide) rfl ?_
      refine re_goto (pc := 88) 6 (by decide +kernel : decode cX13_canGive 88 = .ok (.goto (-82), 3)) (by decide) ?_
      refine re_sub [2, 3, 4, 5, 6, 1, 0] (lv1 := [(0, .ref a0), (1, .int x1), (2, .int x2), (3, .int x3), (4, .int x4), (5, .int (0 : Int32)), (6, .int x11_)]) rfl ?_
      exact hK6 a0 x1 x2 x3 x4 (0 : Int32) x11_ S1_ _ _ h
    · refine re_if_eq_f (pc := 75) 82 (by decide +kernel : decode cX13_canGive 75 = .ok (.ifCond .eq 7, 3)) (by decide) g10_ ?_
      refine re_iconst (pc := 78) (1 : Int32) (by decide +kernel : decode cX13_canGive 78 = .ok (.iconst 1, 1)) (by decide) ?_
      refine re_goto (pc := 79) 83 (by decide +kernel : decode cX13_canGive 79 = .ok (.goto 4, 3)) (by decide) ?_
      refine re_istore (pc := 83) (lv1 := [(5, .int (1 : Int32)), (0, .ref a0), (1, .int x1), (2, .int x2), (3, .int x3), (4, .int x4), (6, .int x6)]) (by decide +kernel : decode cX13_canGive 83 = .ok (.istore 5, 2)) (by decide) rfl ?_
      obtain ⟨x13_, g14_, h⟩ := rv_lt_e h
      refine re_iinc (pc := 85) 6 x13_ (lv1 := [(6, .int x13_), (5, .int (1 : Int32)), (0, .ref a0), (1, .int x1), (2, .int x2), (3, .int x3), (4, .int x4)]) (by decide +kernel : decode cX13_canGive 85 = .ok (.iinc 6 1, 3)) rfl g14_ (by decide) rfl ?_
      refine re_goto (pc := 88) 6 (by decide +kernel : decode cX13_canGive 88 = .ok (.goto (-82), 3)) (by decide) ?_
      refine re_sub [2, 3, 4, 5, 6, 1, 0] (lv1 := [(0, .ref a0), (1, .int x1), (2, .int x2), (3, .int x3), (4, .int x4), (5, .int (1 : Int32)), (6, .int x13_)]) rfl ?_
      exact hK6 a0 x1 x2 x3 x4 (1 : Int32) x13_ S1_ _ _ h
  · refine re_if_ne_t (pc := 65) 78 (by decide +kernel : decode cX13_canGive 65 = .ok (.ifCond .ne 13, 3)) (by decide) g3_ ?_
    refine re_iconst (pc := 78) (1 : Int32) (by decide +kernel : decode cX13_canGive 78 = .ok (.iconst 1, 1)) (by decide) ?_
    refine re_goto (pc := 79) 83 (by decide +kernel : decode cX13_canGive 79 = .ok (.goto 4, 3)) (by decide) ?_
    refine re_istore (pc := 83) (lv1 := [(5, .int (1 : Int32)), (0, .ref a0), (1, .int x1), (2, .int x2), (3, .int x3), (4, .int x4), (6, .int x6)]) (by decide +kernel : decode cX13_canGive 83 = .ok (.istore 5, 2)) (by decide) rfl ?_
    obtain ⟨x4_, g5_, h⟩ := rv_lt_e h
    refine re_iinc (pc := 85) 6 x4_ (lv1 := [(6, .int x4_), (5, .int (1 : Int32)), (0, .ref a0), (1, .int x1), (2, .int x2), (3, .int x3), (4, .int x4)]) (by decide +kernel : decode cX13_canGive 85 = .ok (.iinc 6 1, 3)) rfl g5_ (by decide) rfl ?_
    refine re_goto (pc := 88) 6 (by decide +kernel : decode cX13_canGive 88 = .ok (.goto (-82), 3)) (by decide) ?_
    refine re_sub [2, 3, 4, 5, 6, 1, 0] (lv1 := [(0, .ref a0), (1, .int x1), (2, .int x2), (3, .int x3), (4, .int x4), (5, .int (1 : Int32)), (6, .int x4_)]) rfl ?_
    exact hK6 a0 x1 x2 x3 x4 (1 : Int32) x4_ S1_ _ _ h
noncomputable def cX13_canGive_61 (n : Nat) (K6 : Nat → Int32 → Int32 → Int32 → Int32 → Int32 → Int32 → rvS → Option (Int32 × rvS)) (S : rvS) (a0 : Nat) (x1 : Int32) (x2 : Int32) (x3 : Int32) (x4 : Int32) (x5 : Int32) (x6 : Int32) (t0 : Nat) (t1 : Int32) : Option (Int32 × rvS) :=
  cX13_canGive_62 n K6 S a0 x1 x2 x3 x4 x5 x6 t0 t1 (0 : Int32)
set_option maxRecDepth 20000 in
set_option maxHeartbeats 4000000 in
theorem eX13_canGive_61 (n : Nat) (K6 : Nat → Int32 → Int32 → Int32 → Int32 → Int32 → Int32 → rvS → Option (Int32 × rvS)) (hK6 : ∀ (a0 : Nat) (x1 : Int32) (x2 : Int32) (x3 : Int32) (x4 : Int32) (x5 : Int32) (x6 : Int32) (S : rvS) (r : Int32) (S' : rvS), K6 a0 x1 x2 x3 x4 x5 x6 S = some (r, S') → rv_Ev mX13_canGive 1 6 [(0, .ref a0), (1, .int x1), (2, .int x2), (3, .int x3), (4, .int x4), (5, .int x5), (6, .int x6)] [] S (some (.int r)) S') (S : rvS) (a0 : Nat) (x1 : Int32) (x2 : Int32) (x3 : Int32) (x4 : Int32) (x5 : Int32) (x6 : Int32) (t0 : Nat) (t1 : Int32) (r : Int32) (S' : rvS) (h : cX13_canGive_61 n K6 S a0 x1 x2 x3 x4 x5 x6 t0 t1 = some (r, S')) : rv_Ev mX13_canGive 1 61 [(0, .ref a0), (1, .int x1), (2, .int x2), (3, .int x3), (4, .int x4), (5, .int x5), (6, .int x6)] [.int t1, .ref t0] S (some (.int r)) S' := by
  unfold cX13_canGive_61 at h
  refine re_iconst (pc := 61) (0 : Int32) (by decide +kernel : decode cX13_canGive 61 = .ok (.iconst 0, 1)) (by decide) ?_
  exact eX13_canGive_62 n K6 hK6 S a0 x1 x2 x3 x4 x5 x6 t0 t1 (0 : Int32) _ _ h
noncomputable def cX13_canGive_6 (n : Nat) : Nat → rvS → Nat → Int32 → Int32 → Int32 → Int32 → Int32 → Int32 → Option (Int32 × rvS)
  | 0, _, _, _, _, _, _, _, _ => none
  | k + 1, S, a0, x1, x2, x3, x4, x5, x6 =>
    if (100 : Int32) ≤ x6 then (
      (rv_bo x5).bind fun b_ =>
      some (b_, S))
    else (
      (rv_gR S 11 a0 30).bind fun a2_ =>
      if x3 < x2 then (
        cX13_canGive_61 n (fun a0 x1 x2 x3 x4 x5 x6 S => cX13_canGive_6 n k S a0 x1 x2 x3 x4 x5 x6) S a0 x1 x2 x3 x4 x5 x6 a2_ x6)
      else (
        (rv_gR S 11 a0 29).bind fun a5_ =>
        (rv_aI S 3 a5_ x6).bind fun x7_ =>
        if x7_ = 0 then (
          cX13_canGive_61 n (fun a0 x1 x2 x3 x4 x5 x6 S => cX13_canGive_6 n k S a0 x1 x2 x3 x4 x5 x6) S a0 x1 x2 x3 x4 x5 x6 a2_ x6)
        else (
          (rv_gR S 11 a0 25).bind fun a10_ =>
          (fnX13_two n S (x1 + (1 : Int32)) (x3 - x2) x6).bind fun x13_ =>
          (rv_aI S 0 a10_ x13_).bind fun x15_ =>
          if (x15_ + (1 : Int32)) = x4 then (
            cX13_canGive_62 n (fun a0 x1 x2 x3 x4 x5 x6 S => cX13_canGive_6 n k S a0 x1 x2 x3 x4 x5 x6) S a0 x1 x2 x3 x4 x5 x6 a2_ x6 (1 : Int32))
          else (
            cX13_canGive_61 n (fun a0 x1 x2 x3 x4 x5 x6 S => cX13_canGive_6 n k S a0 x1 x2 x3 x4 x5 x6) S a0 x1 x2 x3 x4 x5 x6 a2_ x6))))
set_option maxRecDepth 20000 in
set_option maxHeartbeats 4000000 in
theorem eX13_canGive_6 (n : Nat) : ∀ (k : Nat) (S : rvS) (a0 : Nat) (x1 : Int32) (x2 : Int32) (x3 : Int32) (x4 : Int32) (x5 : Int32) (x6 : Int32) (r : Int32) (S' : rvS), cX13_canGive_6 n k S a0 x1 x2 x3 x4 x5 x6 = some (r, S') → rv_Ev mX13_canGive 1 6 [(0, .ref a0), (1, .int x1), (2, .int x2), (3, .int x3), (4, .int x4), (5, .int x5), (6, .int x6)] [] S (some (.int r)) S' := by
  intro k
  induction k with
  | zero => intro S a0 x1 x2 x3 x4 x5 x6 r S' h; exact absurd h (by simp [cX13_canGive_6])
  | succ k ih =>
    intro S a0 x1 x2 x3 x4 x5 x6 r S' h
    unfold cX13_canGive_6 at h
    refine re_iload (pc := 6) 6 (by decide +kernel : decode cX13_canGive 6 = .ok (.iload 6, 2)) rfl ?_
    refine re_bipush (pc := 8) (100 : Int32) (by decide +kernel : decode cX13_canGive 8 = .ok (.bipush 100, 2)) (by decide) ?_
    rcases rv_if_e h with ⟨g1_, h⟩ | ⟨g1_, h⟩
    · refine re_icmp_ge_t (pc := 10) 91 (by decide +kernel : decode cX13_canGive 10 = .ok (.if_icmp .ge 81, 3)) (by decide) g1_ ?_
      refine re_iload (pc := 91) 5 (by decide +kernel : decode cX13_canGive 91 = .ok (.iload 5, 2)) rfl ?_
      obtain ⟨b_, gb_, h⟩ := rv_b_e h
      obtain ⟨gb1_, gb2_⟩ := rv_bo_e gb_
      refine re_nI (pc := 93) gb1_ ?_
      cases h
      exact re_iret (fun ty hty => by cases hty; exact gb2_) (by decide +kernel : decode cX13_canGive 93 = .ok (.ireturn, 1))
    · refine re_icmp_ge_f (pc := 10) 91 (by decide +kernel : decode cX13_canGive 10 = .ok (.if_icmp .ge 81, 3)) (by decide) g1_ ?_
      refine re_aloadn (pc := 13) 0 (by decide +kernel : decode cX13_canGive 13 = .ok (.aload_n 0, 1)) rfl ?_
      obtain ⟨a2_, g3_, h⟩ := rv_b_e h
      refine re_gR (pc := 14) g3_ lfX13_59 rfl (by decide +kernel : decode cX13_canGive 14 = .ok (.getfield 59, 3)) ?_
      refine re_iload (pc := 17) 6 (by decide +kernel : decode cX13_canGive 17 = .ok (.iload 6, 2)) rfl ?_
      refine re_iloadn (pc := 19) 2 (by decide +kernel : decode cX13_canGive 19 = .ok (.iload_n 2, 1)) rfl ?_
      refine re_iloadn (pc := 20) 3 (by decide +kernel : decode cX13_canGive 20 = .ok (.iload_n 3, 1)) rfl ?_
      rcases rv_if_e h with ⟨g4_, h⟩ | ⟨g4_, h⟩
      · refine re_icmp_gt_t (pc := 21) 61 (by decide +kernel : decode cX13_canGive 21 = .ok (.if_icmp .gt 40, 3)) (by decide) g4_ ?_
        exact eX13_canGive_61 n (fun a0 x1 x2 x3 x4 x5 x6 S => cX13_canGive_6 n k S a0 x1 x2 x3 x4 x5 x6) (fun a0 x1 x2 x3 x4 x5 x6 S _ _ h => ih S a0 x1 x2 x3 x4 x5 x6 _ _ h) S a0 x1 x2 x3 x4 x5 x6 a2_ x6 _ _ h
      · refine re_icmp_gt_f (pc := 21) 61 (by decide +kernel : decode cX13_canGive 21 = .ok (.if_icmp .gt 40, 3)) (by decide) g4_ ?_
        refine re_aloadn (pc := 24) 0 (by decide +kernel : decode cX13_canGive 24 = .ok (.aload_n 0, 1)) rfl ?_
        obtain ⟨a5_, g6_, h⟩ := rv_b_e h
        refine re_gR (pc := 25) g6_ lfX13_56 rfl (by decide +kernel : decode cX13_canGive 25 = .ok (.getfield 56, 3)) ?_
        refine re_iload (pc := 28) 6 (by decide +kernel : decode cX13_canGive 28 = .ok (.iload 6, 2)) rfl ?_
        obtain ⟨x7_, g8_, h⟩ := rv_b_e h
        refine re_aZ (pc := 30) g8_ (by decide +kernel : decode cX13_canGive 30 = .ok (.baload, 1)) ?_
        rcases rv_if_e h with ⟨g9_, h⟩ | ⟨g9_, h⟩
        · refine re_if_eq_t (pc := 31) 61 (by decide +kernel : decode cX13_canGive 31 = .ok (.ifCond .eq 30, 3)) (by decide) g9_ ?_
          exact eX13_canGive_61 n (fun a0 x1 x2 x3 x4 x5 x6 S => cX13_canGive_6 n k S a0 x1 x2 x3 x4 x5 x6) (fun a0 x1 x2 x3 x4 x5 x6 S _ _ h => ih S a0 x1 x2 x3 x4 x5 x6 _ _ h) S a0 x1 x2 x3 x4 x5 x6 a2_ x6 _ _ h
        · refine re_if_eq_f (pc := 31) 61 (by decide +kernel : decode cX13_canGive 31 = .ok (.ifCond .eq 30, 3)) (by decide) g9_ ?_
          refine re_aloadn (pc := 34) 0 (by decide +kernel : decode cX13_canGive 34 = .ok (.aload_n 0, 1)) rfl ?_
          obtain ⟨a10_, g11_, h⟩ := rv_b_e h
          refine re_gR (pc := 35) g11_ lfX13_43 rfl (by decide +kernel : decode cX13_canGive 35 = .ok (.getfield 43, 3)) ?_
          refine re_iloadn (pc := 38) 1 (by decide +kernel : decode cX13_canGive 38 = .ok (.iload_n 1, 1)) rfl ?_
          refine re_iconst (pc := 39) (1 : Int32) (by decide +kernel : decode cX13_canGive 39 = .ok (.iconst 1, 1)) (by decide) ?_
          refine re_iadd (pc := 40) (by decide +kernel : decode cX13_canGive 40 = .ok (.iadd, 1)) ?_
          refine re_iloadn (pc := 41) 3 (by decide +kernel : decode cX13_canGive 41 = .ok (.iload_n 3, 1)) rfl ?_
          refine re_iloadn (pc := 42) 2 (by decide +kernel : decode cX13_canGive 42 = .ok (.iload_n 2, 1)) rfl ?_
          refine re_isub (pc := 43) (by decide +kernel : decode cX13_canGive 43 = .ok (.isub, 1)) ?_
          refine re_iload (pc := 44) 6 (by decide +kernel : decode cX13_canGive 44 = .ok (.iload 6, 2)) rfl ?_
          obtain ⟨x13_, g14_, h⟩ := rv_b_e h
          have m12_ := metX13_two n S (x1 + (1 : Int32)) (x3 - x2) x6 _ g14_
          refine re_cS (pc := 46) [.int (x1 + (1 : Int32)), .int (x3 - x2), .int x6] m12_ (rv_okl.k ⟨rfl, rfl⟩) (rv_up.rf _ _) (by decide) (Nat.le_of_ble_eq_true rfl) lSX13_332 rfl (by decide +kernel : decode cX13_canGive 46 = .ok (.invokestatic 332, 3)) ?_
          obtain ⟨x15_, g16_, h⟩ := rv_b_e h
          refine re_aI (pc := 49) g16_ (by decide +kernel : decode cX13_canGive 49 = .ok (.iaload, 1)) ?_
          refine re_iconst (pc := 50) (1 : Int32) (by decide +kernel : decode cX13_canGive 50 = .ok (.iconst 1, 1)) (by decide) ?_
          refine re_iadd (pc := 51) (by decide +kernel : decode cX13_canGive 51 = .ok (.iadd, 1)) ?_
          refine re_iload (pc := 52) 4 (by decide +kernel : decode cX13_canGive 52 = .ok (.iload 4, 2)) rfl ?_
          rcases rv_if_e h with ⟨g17_, h⟩ | ⟨g17_, h⟩
          · refine re_icmp_ne_f (pc := 54) 61 (by decide +kernel : decode cX13_canGive 54 = .ok (.if_icmp .ne 7, 3)) (by decide) g17_ ?_
            refine re_iconst (pc := 57) (1 : Int32) (by decide +kernel : decode cX13_canGive 57 = .ok (.iconst 1, 1)) (by decide) ?_
            refine re_goto (pc := 58) 62 (by decide +kernel : decode cX13_canGive 58 = .ok (.goto 4, 3)) (by decide) ?_
            exact eX13_canGive_62 n (fun a0 x1 x2 x3 x4 x5 x6 S => cX13_canGive_6 n k S a0 x1 x2 x3 x4 x5 x6) (fun a0 x1 x2 x3 x4 x5 x6 S _ _ h => ih S a0 x1 x2 x3 x4 x5 x6 _ _ h) S a0 x1 x2 x3 x4 x5 x6 a2_ x6 (1 : Int32) _ _ h
          · refine re_icmp_ne_t (pc := 54) 61 (by decide +kernel : decode cX13_canGive 54 = .ok (.if_icmp .ne 7, 3)) (by decide) g17_ ?_
            exact eX13_canGive_61 n (fun a0 x1 x2 x3 x4 x5 x6 S => cX13_canGive_6 n k S a0 x1 x2 x3 x4 x5 x6) (fun a0 x1 x2 x3 x4 x5 x6 S _ _ h => ih S a0 x1 x2 x3 x4 x5 x6 _ _ h) S a0 x1 x2 x3 x4 x5 x6 a2_ x6 _ _ h
noncomputable def fnX13_canGive (n : Nat) (S : rvS) (a0 : Nat) (x1 : Int32) (x2 : Int32) (x3 : Int32) (x4 : Int32) : Option (Int32 × rvS) :=
  cX13_canGive_6 n n S a0 x1 x2 x3 x4 (0 : Int32) (0 : Int32)
set_option maxRecDepth 20000 in
set_option maxHeartbeats 4000000 in
theorem eX13_canGive_in (n : Nat) (S : rvS) (a0 : Nat) (x1 : Int32) (x2 : Int32) (x3 : Int32) (x4 : Int32) (r : Int32) (S' : rvS) (h : fnX13_canGive n S a0 x1 x2 x3 x4 = some (r, S')) : rv_Ev mX13_canGive 1 0 [(0, .ref a0), (1, .int x1), (2, .int x2), (3, .int x3), (4, .int x4)] [] S (some (.int r)) S' := by
  unfold fnX13_canGive at h
  refine re_iconst (pc := 0) (0 : Int32) (by decide +kernel : decode cX13_canGive 0 = .ok (.iconst 0, 1)) (by decide) ?_
  refine re_istore (pc := 1) (lv1 := [(5, .int (0 : Int32)), (0, .ref a0), (1, .int x1), (2, .int x2), (3, .int x3), (4, .int x4)]) (by decide +kernel : decode cX13_canGive 1 = .ok (.istore 5, 2)) (by decide) rfl ?_
  refine re_iconst (pc := 3) (0 : Int32) (by decide +kernel : decode cX13_canGive 3 = .ok (.iconst 0, 1)) (by decide) ?_
  refine re_istore (pc := 4) (lv1 := [(6, .int (0 : Int32)), (5, .int (0 : Int32)), (0, .ref a0), (1, .int x1), (2, .int x2), (3, .int x3), (4, .int x4)]) (by decide +kernel : decode cX13_canGive 4 = .ok (.istore 6, 2)) (by decide) rfl ?_
  refine re_sub [2, 3, 4, 5, 6, 1, 0] (lv1 := [(0, .ref a0), (1, .int x1), (2, .int x2), (3, .int x3), (4, .int x4), (5, .int (0 : Int32)), (6, .int (0 : Int32))]) rfl ?_
  exact eX13_canGive_6 n n S a0 x1 x2 x3 x4 (0 : Int32) (0 : Int32) _ _ h
theorem metX13_canGive (n : Nat) (S : rvS) (a0 : Nat) (x1 : Int32) (x2 : Int32) (x3 : Int32) (x4 : Int32) (r : Int32) (S' : rvS) (h : fnX13_canGive n S a0 x1 x2 x3 x4 = some (r, S')) : rv_Met yX13_canGive mX13_canGive 1 [.ref a0, .int x1, .int x2, .int x3, .int x4] S (some (.int r)) S' := rv_Met.of ⟨by decide +kernel, rfl, (fun z => by first | rfl | cases z), rfl⟩ (Nat.le_of_ble_eq_true rfl) rfl (eX13_canGive_in n S a0 x1 x2 x3 x4 r S' h)
noncomputable def cX13_keepsOn_46 (n : Nat) (K3 : Nat → Int32 → Int32 → Int32 → Int32 → Int32 → rvS → Option rvS) (S : rvS) (a0 : Nat) (x1 : Int32) (x2 : Int32) (x3 : Int32) (x4 : Int32) (x5 : Int32) (t0 : Int32) : Option rvS :=
  (rv_gR S 11 a0 30).bind fun a1_ =>
  if t0 = 0 then (
    (rv_uZ S a1_ x5 (0 : Int32)).bind fun S4_ =>
    rv_lt (x5 + (1)) fun x6_ =>
    K3 a0 x1 x2 x3 x4 x6_ S4_)
  else (
    (rv_gR S 11 a0 25).bind fun a8_ =>
    (fnX13_two n S (x1 + (1 : Int32)) x3 x5).bind fun x11_ =>
    (rv_aI S 0 a8_ x11_).bind fun x13_ =>
    if x13_ = x4 then (
      (rv_uZ S a1_ x5 (1 : Int32)).bind fun S20_ =>
      rv_lt (x5 + (1)) fun x22_ =>
      K3 a0 x1 x2 x3 x4 x22_ S20_)
    else (
      (rv_uZ S a1_ x5 (0 : Int32)).bind fun S16_ =>
      rv_lt (x5 + (1)) fun x18_ =>
      K3 a0 x1 x2 x3 x4 x18_ S16_))
set_option maxRecDepth 20000 in
set_option maxHeartbeats 4000000 in
theorem eX13_keepsOn_46 (n : Nat) (K3 : Nat → Int32 → Int32 → Int32 → Int32 → Int32 → rvS → Option rvS) (hK3 : ∀ (a0 : Nat) (x1 : Int32) (x2 : Int32) (x3 : Int32) (x4 : Int32) (x5 : Int32) (S : rvS) (S' : rvS), K3 a0 x1 x2 x3 x4 x5 S = some S' → rv_Ev mX13_keepsOn 1 3 [(0, .ref a0), (1, .int x1), (2, .int x2), (3, .int x3), (4, .int x4), (5, .int x5)] [] S none S') (S : rvS) (a0 : Nat) (x1 : Int32) (x2 : Int32) (x3 : Int32) (x4 : Int32) (x5 : Int32) (t0 : Int32) (S' : rvS) (h : cX13_keepsOn_46 n K3 S a0 x1 x2 x3 x4 x5 t0 = some S') : rv_Ev mX13_keepsOn 1 46 [(0, .ref a0), (1, .int x1), (2, .int x2), (3, .int x3), (4, .int x4), (5, .int x5)] [.int t0] S none S' := by
  unfold cX13_keepsOn_46 at h
  refine re_istore (pc := 46) (lv1 := [(6, .int t0), (0, .ref a0), (1, .int x1), (2, .int x2), (3, .int x3), (4, .int x4), (5, .int x5)]) (by decide +kernel : decode cX13_keepsOn 46 = .ok (.istore 6, 2)) (by decide) rfl ?_
  refine re_aloadn (pc := 48) 1 (by decide +kernel : decode cX13_keepsOn 48 = .ok (.aload_n 0, 1)) rfl ?_
  obtain ⟨a1_, g2_, h⟩ := rv_b_e h
  refine re_gR (pc := 49) g2_ lfX13_59 rfl (by decide +kernel : decode cX13_keepsOn 49 = .ok (.getfield 59, 3)) ?_
  refine re_iload (pc := 52) 6 (by decide +kernel : decode cX13_keepsOn 52 = .ok (.iload 5, 2)) rfl ?_
  refine re_iload (pc := 54) 0 (by decide +kernel : decode cX13_keepsOn 54 = .ok (.iload 6, 2)) rfl ?_
  rcases rv_if_e h with ⟨g3_, h⟩ | ⟨g3_, h⟩
  · refine re_if_eq_t (pc := 56) 82 (by decide +kernel : decode cX13_keepsOn 56 = .ok (.ifCond .eq 26, 3)) (by decide) g3_ ?_
    refine re_iconst (pc := 82) (0 : Int32) (by decide +kernel : decode cX13_keepsOn 82 = .ok (.iconst 0, 1)) (by decide) ?_
    obtain ⟨S4_, g5_, h⟩ := rv_b_e h
    refine re_uZ (pc := 83) g5_ (by decide +kernel : decode cX13_keepsOn 83 = .ok (.bastore, 1)) ?_
    obtain ⟨x6_, g7_, h⟩ := rv_lt_e h
    refine re_iinc (pc := 84) 6 x6_ (lv1 := [(5, .int x6_), (6, .int t0), (0, .ref a0), (1, .int x1), (2, .int x2), (3, .int x3), (4, .int x4)]) (by decide +kernel : decode cX13_keepsOn 84 = .ok (.iinc 5 1, 3)) rfl g7_ (by decide) rfl ?_
    refine re_goto (pc := 87) 3 (by decide +kernel : decode cX13_keepsOn 87 = .ok (.goto (-84), 3)) (by decide) ?_
    refine re_sub [2, 3, 4, 5, 6, 0] (lv1 := [(0, .ref a0), (1, .int x1), (2, .int x2), (3, .int x3), (4, .int x4), (5, .int x6_)]) rfl ?_
    exact hK3 a0 x1 x2 x3 x4 x6_ S4_ _ h
  · refine re_if_eq_f (pc := 56) 82 (by decide +kernel : decode cX13_keepsOn 56 = .ok (.ifCond .eq 26, 3)) (by decide) g3_ ?_
    refine re_aloadn (pc := 59) 1 (by decide +kernel : decode cX13_keepsOn 59 = .ok (.aload_n 0, 1)) rfl ?_
    obtain ⟨a8_, g9_, h⟩ := rv_b_e h
    refine re_gR (pc := 60) g9_ lfX13_43 rfl (by decide +kernel : decode cX13_keepsOn 60 = .ok (.getfield 43, 3)) ?_
    refine re_iloadn (pc := 63) 2 (by decide +kernel : decode cX13_keepsOn 63 = .ok (.iload_n 1, 1)) rfl ?_
    refine re_iconst (pc := 64) (1 : Int32) (by decide +kernel : decode cX13_keepsOn 64 = .ok (.iconst 1, 1)) (by decide) ?_
    refine re_iadd (pc := 65) (by decide +kernel : decode cX13_keepsOn 65 = .ok (.iadd, 1)) ?_
    refine re_iloadn (pc := 66) 4 (by decide +kernel : decode cX13_keepsOn 66 = .ok (.iload_n 3, 1)) rfl ?_
    refine re_iload (pc := 67) 6 (by decide +kernel : decode cX13_keepsOn 67 = .ok (.iload 5, 2)) rfl ?_
    obtain ⟨x11_, g12_, h⟩ := rv_b_e h
    have m10_ := metX13_two n S (x1 + (1 : Int32)) x3 x5 _ g12_
    refine re_cS (pc := 69) [.int (x1 + (1 : Int32)), .int x3, .int x5] m10_ (rv_okl.k ⟨rfl, rfl⟩) (rv_up.rf _ _) (by decide) (Nat.le_of_ble_eq_true rfl) lSX13_332 rfl (by decide +kernel : decode cX13_keepsOn 69 = .ok (.invokestatic 332, 3)) ?_
    obtain ⟨x13_, g14_, h⟩ := rv_b_e h
    refine re_aI (pc := 72) g14_ (by decide +kernel : decode cX13_keepsOn 72 = .ok (.iaload, 1)) ?_
    refine re_iload (pc := 73) 5 (by decide +kernel : decode cX13_keepsOn 73 = .ok (.iload 4, 2)) rfl ?_
    rcases rv_if_e h with ⟨g15_, h⟩ | ⟨g15_, h⟩
    · refine re_icmp_ne_f (pc := 75) 82 (by decide +kernel : decode cX13_keepsOn 75 = .ok (.if_icmp .ne 7, 3)) (by decide) g15_ ?_
      refine re_iconst (pc := 78) (1 : Int32) (by decide +kernel : decode cX13_keepsOn 78 = .ok (.iconst 1, 1)) (by decide) ?_
      refine re_goto (pc := 79) 83 (by decide +kernel : decode cX13_keepsOn 79 = .ok (.goto 4, 3)) (by decide) ?_
      obtain ⟨S20_, g21_, h⟩ := rv_b_e h
      refine re_uZ (pc := 83) g21_ (by decide +kernel : decode cX13_keepsOn 83 = .ok (.bastore, 1)) ?_
      obtain ⟨x22_, g23_, h⟩ := rv_lt_e h
      refine re_iinc (pc := 84) 6 x22_ (lv1 := [(5, .int x22_), (6, .int t0), (0, .ref a0), (1, .int x1), (2, .int x2), (3, .int x3), (4, .int x4)]) (by decide +kernel : decode cX13_keepsOn 84 = .ok (.iinc 5 1, 3)) rfl g23_ (by decide) rfl ?_
      refine re_goto (pc := 87) 3 (by decide +kernel : decode cX13_keepsOn 87 = .ok (.goto (-84), 3)) (by decide) ?_
      refine re_sub [2, 3, 4, 5, 6, 0] (lv1 := [(0, .ref a0), (1, .int x1), (2, .int x2), (3, .int x3), (4, .int x4), (5, .int x22_)]) rfl ?_
      exact hK3 a0 x1 x2 x3 x4 x22_ S20_ _ h
    · refine re_icmp_ne_t (pc := 75) 82 (by decide +kernel : decode cX13_keepsOn 75 = .ok (.if_icmp .ne 7, 3)) (by decide) g15_ ?_
      refine re_iconst (pc := 82) (0 : Int32) (by decide +kernel : decode cX13_keepsOn 82 = .ok (.iconst 0, 1)) (by decide) ?_
      obtain ⟨S16_, g17_, h⟩ := rv_b_e h
      refine re_uZ (pc := 83) g17_ (by decide +kernel : decode cX13_keepsOn 83 = .ok (.bastore, 1)) ?_
      obtain ⟨x18_, g19_, h⟩ := rv_lt_e h
      refine re_iinc (pc := 84) 6 x18_ (lv1 := [(5, .int x18_), (6, .int t0), (0, .ref a0), (1, .int x1), (2, .int x2), (3, .int x3), (4, .int x4)]) (by decide +kernel : decode cX13_keepsOn 84 = .ok (.iinc 5 1, 3)) rfl g19_ (by decide) rfl ?_
      refine re_goto (pc := 87) 3 (by decide +kernel : decode cX13_keepsOn 87 = .ok (.goto (-84), 3)) (by decide) ?_
      refine re_sub [2, 3, 4, 5, 6, 0] (lv1 := [(0, .ref a0), (1, .int x1), (2, .int x2), (3, .int x3), (4, .int x4), (5, .int x18_)]) rfl ?_
      exact hK3 a0 x1 x2 x3 x4 x18_ S16_ _ h
noncomputable def cX13_keepsOn_41 (n : Nat) (K3 : Nat → Int32 → Int32 → Int32 → Int32 → Int32 → rvS → Option rvS) (S : rvS) (a0 : Nat) (x1 : Int32) (x2 : Int32) (x3 : Int32) (x4 : Int32) (x5 : Int32) : Option rvS :=
  cX13_keepsOn_46 n K3 S a0 x1 x2 x3 x4 x5 (1 : Int32)
set_option maxRecDepth 20000 in
set_option maxHeartbeats 4000000 in
theorem eX13_keepsOn_41 (n : Nat) (K3 : Nat → Int32 → Int32 → Int32 → Int32 → Int32 → rvS → Option rvS) (hK3 : ∀ (a0 : Nat) (x1 : Int32) (x2 : Int32) (x3 : Int32) (x4 : Int32) (x5 : Int32) (S : rvS) (S' : rvS), K3 a0 x1 x2 x3 x4 x5 S = some S' → rv_Ev mX13_keepsOn 1 3 [(0, .ref a0), (1, .int x1), (2, .int x2), (3, .int x3), (4, .int x4), (5, .int x5)] [] S none S') (S : rvS) (a0 : Nat) (x1 : Int32) (x2 : Int32) (x3 : Int32) (x4 : Int32) (x5 : Int32) (S' : rvS) (h : cX13_keepsOn_41 n K3 S a0 x1 x2 x3 x4 x5 = some S') : rv_Ev mX13_keepsOn 1 41 [(0, .ref a0), (1, .int x1), (2, .int x2), (3, .int x3), (4, .int x4), (5, .int x5)] [] S none S' := by
  unfold cX13_keepsOn_41 at h
  refine re_iconst (pc := 41) (1 : Int32) (by decide +kernel : decode cX13_keepsOn 41 = .ok (.iconst 1, 1)) (by decide) ?_
  refine re_goto (pc := 42) 46 (by decide +kernel : decode cX13_keepsOn 42 = .ok (.goto 4, 3)) (by decide) ?_
  exact eX13_keepsOn_46 n K3 hK3 S a0 x1 x2 x3 x4 x5 (1 : Int32) _ h
noncomputable def cX13_keepsOn_45 (n : Nat) (K3 : Nat → Int32 → Int32 → Int32 → Int32 → Int32 → rvS → Option rvS) (S : rvS) (a0 : Nat) (x1 : Int32) (x2 : Int32) (x3 : Int32) (x4 : Int32) (x5 : Int32) : Option rvS :=
  cX13_keepsOn_46 n K3 S a0 x1 x2 x3 x4 x5 (0 : Int32)
set_option maxRecDepth 20000 in
set_option maxHeartbeats 4000000 in
theorem eX13_keepsOn_45 (n : Nat) (K3 : Nat → Int32 → Int32 → Int32 → Int32 → Int32 → rvS → Option rvS) (hK3 : ∀ (a0 : Nat) (x1 : Int32) (x2 : Int32) (x3 : Int32) (x4 : Int32) (x5 : Int32) (S : rvS) (S' : rvS), K3 a0 x1 x2 x3 x4 x5 S = some S' → rv_Ev mX13_keepsOn 1 3 [(0, .ref a0), (1, .int x1), (2, .int x2), (3, .int x3), (4, .int x4), (5, .int x5)] [] S none S') (S : rvS) (a0 : Nat) (x1 : Int32) (x2 : Int32) (x3 : Int32) (x4 : Int32) (x5 : Int32) (S' : rvS) (h : cX13_keepsOn_45 n K3 S a0 x1 x2 x3 x4 x5 = some S') : rv_Ev mX13_keepsOn 1 45 [(0, .ref a0), (1, .int x1), (2, .int x2), (3, .int x3), (4, .int x4), (5, .int x5)] [] S none S' := by
  unfold cX13_keepsOn_45 at h
  refine re_iconst (pc := 45) (0 : Int32) (by decide +kernel : decode cX13_keepsOn 45 = .ok (.iconst 0, 1)) (by decide) ?_
  exact eX13_keepsOn_46 n K3 hK3 S a0 x1 x2 x3 x4 x5 (0 : Int32) _ h
noncomputable def cX13_keepsOn_3 (n : Nat) : Nat → rvS → Nat → Int32 → Int32 → Int32 → Int32 → Int32 → Option rvS
  | 0, _, _, _, _, _, _, _ => none
  | k + 1, S, a0, x1, x2, x3, x4, x5 =>
    if (100 : Int32) ≤ x5 then (
      some S)
    else (
      (rv_gR S 11 a0 29).bind fun a2_ =>
      (rv_aI S 3 a2_ x5).bind fun x4_ =>
      if x4_ = 0 then (
        if (100 : Int32) ≤ (x5 + x2) then (
          cX13_keepsOn_45 n (fun a0 x1 x2 x3 x4 x5 S => cX13_keepsOn_3 n k S a0 x1 x2 x3 x4 x5) S a0 x1 x2 x3 x4 x5)
        else (
          (rv_gR S 11 a0 29).bind fun a8_ =>
          (rv_aI S 3 a8_ (x5 + x2)).bind fun x10_ =>
          if x10_ = 0 then (
            cX13_keepsOn_45 n (fun a0 x1 x2 x3 x4 x5 S => cX13_keepsOn_3 n k S a0 x1 x2 x3 x4 x5) S a0 x1 x2 x3 x4 x5)
          else (
            cX13_keepsOn_41 n (fun a0 x1 x2 x3 x4 x5 S => cX13_keepsOn_3 n k S a0 x1 x2 x3 x4 x5) S a0 x1 x2 x3 x4 x5)))
      else (
        cX13_keepsOn_41 n (fun a0 x1 x2 x3 x4 x5 S => cX13_keepsOn_3 n k S a0 x1 x2 x3 x4 x5) S a0 x1 x2 x3 x4 x5))
set_option maxRecDepth 20000 in
set_option maxHeartbeats 4000000 in
theorem eX13_keepsOn_3 (n : Nat) : ∀ (k : Nat) (S : rvS) (a0 : Nat) (x1 : Int32) (x2 : Int32) (x3 : Int32) (x4 : Int32) (x5 : Int32) (S' : rvS), cX13_keepsOn_3 n k S a0 x1 x2 x3 x4 x5 = some S' → rv_Ev mX13_keepsOn 1 3 [(0, .ref a0), (1, .int x1), (2, .int x2), (3, .int x3), (4, .int x4), (5, .int x5)] [] S none S' := by
  intro k
  induction k with
  | zero => intro S a0 x1 x2 x3 x4 x5 S' h; exact absurd h (by simp [cX13_keepsOn_3])
  | succ k ih =>
    intro S a0 x1 x2 x3 x4 x5 S' h
    unfold cX13_keepsOn_3 at h
    refine re_iload (pc := 3) 5 (by decide +kernel : decode cX13_keepsOn 3 = .ok (.iload 5, 2)) rfl ?_
    refine re_bipush (pc := 5) (100 : Int32) (by decide +kernel : decode cX13_keepsOn 5 = .ok (.bipush 100, 2)) (by decide) ?_
    rcases rv_if_e h with ⟨g1_, h⟩ | ⟨g1_, h⟩
    · refine re_icmp_ge_t (pc := 7) 90 (by decide +kernel : decode cX13_keepsOn 7 = .ok (.if_icmp .ge 83, 3)) (by decide) g1_ ?_
      cases h
      exact re_vret (by decide +kernel : decode cX13_keepsOn 90 = .ok (.return_, 1))
    · refine re_icmp_ge_f (pc := 7) 90 (by decide +kernel : decode cX13_keepsOn 7 = .ok (.if_icmp .ge 83, 3)) (by decide) g1_ ?_
      refine re_aloadn (pc := 10) 0 (by decide +kernel : decode cX13_keepsOn 10 = .ok (.aload_n 0, 1)) rfl ?_
      obtain ⟨a2_, g3_, h⟩ := rv_b_e h
      refine re_gR (pc := 11) g3_ lfX13_56 rfl (by decide +kernel : decode cX13_keepsOn 11 = .ok (.getfield 56, 3)) ?_
      refine re_iload (pc := 14) 5 (by decide +kernel : decode cX13_keepsOn 14 = .ok (.iload 5, 2)) rfl ?_
      obtain ⟨x4_, g5_, h⟩ := rv_b_e h
      refine re_aZ (pc := 16) g5_ (by decide +kernel : decode cX13_keepsOn 16 = .ok (.baload, 1)) ?_
      rcases rv_if_e h with ⟨g6_, h⟩ | ⟨g6_, h⟩
      · refine re_if_ne_f (pc := 17) 41 (by decide +kernel : decode cX13_keepsOn 17 = .ok (.ifCond .ne 24, 3)) (by decide) g6_ ?_
        refine re_iload (pc := 20) 5 (by decide +kernel : decode cX13_keepsOn 20 = .ok (.iload 5, 2)) rfl ?_
        refine re_iloadn (pc := 22) 2 (by decide +kernel : decode cX13_keepsOn 22 = .ok (.iload_n 2, 1)) rfl ?_
        refine re_iadd (pc := 23) (by decide +kernel : decode cX13_keepsOn 23 = .ok (.iadd, 1)) ?_
        refine re_bipush (pc := 24) (100 : Int32) (by decide +kernel : decode cX13_keepsOn 24 = .ok (.bipush 100, 2)) (by decide) ?_
        rcases rv_if_e h with ⟨g7_, h⟩ | ⟨g7_, h⟩
        · refine re_icmp_ge_t (pc := 26) 45 (by decide +kernel : decode cX13_keepsOn 26 = .ok (.if_icmp .ge 19, 3)) (by decide) g7_ ?_
          exact eX13_keepsOn_45 n (fun a0 x1 x2 x3 x4 x5 S => cX13_keepsOn_3 n k S a0 x1 x2 x3 x4 x5) (fun a0 x1 x2 x3 x4 x5 S _ h => ih S a0 x1 x2 x3 x4 x5 _ h) S a0 x1 x2 x3 x4 x5 _ h
        · refine re_icmp_ge_f (pc := 26) 45 (by decide +kernel : decode cX13_keepsOn 26 = .ok (.if_icmp .ge 19, 3)) (by decide) g7_ ?_
          refine re_aloadn (pc := 29) 0 (by decide +kernel : decode cX13_keepsOn 29 = .ok (.aload_n 0, 1)) rfl ?_
          obtain ⟨a8_, g9_, h⟩ := rv_b_e h
          refine re_gR (pc := 30) g9_ lfX13_56 rfl (by decide +kernel : decode cX13_keepsOn 30 = .ok (.getfield 56, 3)) ?_
          refine re_iload (pc := 33) 5 (by decide +kernel : decode cX13_keepsOn 33 = .ok (.iload 5, 2)) rfl ?_
          refine re_iloadn (pc := 35) 2 (by decide +kernel : decode cX13_keepsOn 35 = .ok (.iload_n 2, 1)) rfl ?_
          refine re_iadd (pc := 36) (by decide +kernel : decode cX13_keepsOn 36 = .ok (.iadd, 1)) ?_
          obtain ⟨x10_, g11_, h⟩ := rv_b_e h
          refine re_aZ (pc := 37) g11_ (by decide +kernel : decode cX13_keepsOn 37 = .ok (.baload, 1)) ?_
          rcases rv_if_e h with ⟨g12_, h⟩ | ⟨g12_, h⟩
          · refine re_if_eq_t (pc := 38) 45 (by decide +kernel : decode cX13_keepsOn 38 = .ok (.ifCond .eq 7, 3)) (by decide) g12_ ?_
            exact eX13_keepsOn_45 n (fun a0 x1 x2 x3 x4 x5 S => cX13_keepsOn_3 n k S a0 x1 x2 x3 x4 x5) (fun a0 x1 x2 x3 x4 x5 S _ h => ih S a0 x1 x2 x3 x4 x5 _ h) S a0 x1 x2 x3 x4 x5 _ h
          · refine re_if_eq_f (pc := 38) 45 (by decide +kernel : decode cX13_keepsOn 38 = .ok (.ifCond .eq 7, 3)) (by decide) g12_ ?_
            exact eX13_keepsOn_41 n (fun a0 x1 x2 x3 x4 x5 S => cX13_keepsOn_3 n k S a0 x1 x2 x3 x4 x5) (fun a0 x1 x2 x3 x4 x5 S _ h => ih S a0 x1 x2 x3 x4 x5 _ h) S a0 x1 x2 x3 x4 x5 _ h
      · refine re_if_ne_t (pc := 17) 41 (by decide +kernel : decode cX13_keepsOn 17 = .ok (.ifCond .ne 24, 3)) (by decide) g6_ ?_
        exact eX13_keepsOn_41 n (fun a0 x1 x2 x3 x4 x5 S => cX13_keepsOn_3 n k S a0 x1 x2 x3 x4 x5) (fun a0 x1 x2 x3 x4 x5 S _ h => ih S a0 x1 x2 x3 x4 x5 _ h) S a0 x1 x2 x3 x4 x5 _ h
noncomputable def fnX13_keepsOn (n : Nat) (S : rvS) (a0 : Nat) (x1 : Int32) (x2 : Int32) (x3 : Int32) (x4 : Int32) : Option rvS :=
  cX13_keepsOn_3 n n S a0 x1 x2 x3 x4 (0 : Int32)
set_option maxRecDepth 20000 in
set_option maxHeartbeats 4000000 in
theorem eX13_keepsOn_in (n : Nat) (S : rvS) (a0 : Nat) (x1 : Int32) (x2 : Int32) (x3 : Int32) (x4 : Int32) (S' : rvS) (h : fnX13_keepsOn n S a0 x1 x2 x3 x4 = some S') : rv_Ev mX13_keepsOn 1 0 [(0, .ref a0), (1, .int x1), (2, .int x2), (3, .int x3), (4, .int x4)] [] S none S' := by
  unfold fnX13_keepsOn at h
  refine re_iconst (pc := 0) (0 : Int32) (by decide +kernel : decode cX13_keepsOn 0 = .ok (.iconst 0, 1)) (by decide) ?_
  refine re_istore (pc := 1) (lv1 := [(5, .int (0 : Int32)), (0, .ref a0), (1, .int x1), (2, .int x2), (3, .int x3), (4, .int x4)]) (by decide +kernel : decode cX13_keepsOn 1 = .ok (.istore 5, 2)) (by decide) rfl ?_
  refine re_sub [1, 2, 3, 4, 5, 0] (lv1 := [(0, .ref a0), (1, .int x1), (2, .int x2), (3, .int x3), (4, .int x4), (5, .int (0 : Int32))]) rfl ?_
  exact eX13_keepsOn_3 n n S a0 x1 x2 x3 x4 (0 : Int32) _ h
theorem metX13_keepsOn (n : Nat) (S : rvS) (a0 : Nat) (x1 : Int32) (x2 : Int32) (x3 : Int32) (x4 : Int32) (S' : rvS) (h : fnX13_keepsOn n S a0 x1 x2 x3 x4 = some S') : rv_Met yX13_keepsOn mX13_keepsOn 1 [.ref a0, .int x1, .int x2, .int x3, .int x4] S none S' := rv_Met.of ⟨by decide +kernel, rfl, (fun z => by first | rfl | cases z), rfl⟩ (Nat.le_of_ble_eq_true rfl) rfl (eX13_keepsOn_in n S a0 x1 x2 x3 x4 S' h)
noncomputable def cX13_keep_262 (n : Nat) (K138 : Nat → Int32 → Int32 → Int32 → Int32 → Int32 → Int32 → Int32 → rvS → Option (Int32 × rvS)) : Nat → rvS → Nat → Int32 → Int32 → Int32 → Int32 → Int32 → Int32 → Int32 → Int32 → Option (Int32 × rvS)
  | 0, _, _, _, _, _, _, _, _, _, _ => none
  | k + 1, S, a0, x1, x2, x4, x6, x7, x8, x9, x12 =>
    if (100 : Int32) ≤ x12 then (
      rv_lt (x9 + (1)) fun x2_ =>
      K138 a0 x1 x2 x4 x6 x7 x8 x2_ S)
    else (
      (rv_gR S 11 a0 29).bind fun a4_ =>
      (rv_gR S 11 a0 30).bind fun a6_ =>
      (rv_aI S 3 a6_ x12).bind fun x8_ =>
      (rv_uZ S a4_ x12 x8_).bind fun S10_ =>
      rv_lt (x12 + (1)) fun x12_ =>
      cX13_keep_262 n K138 k S10_ a0 x1 x2 x4 x6 x7 x8 x9 x12_)
set_option maxRecDepth 20000 in
set_option maxHeartbeats 4000000 in
theorem eX13_keep_262 (n : Nat) (K138 : Nat → Int32 → Int32 → Int32 → Int32 → Int32 → Int32 → Int32 → rvS → Option (Int32 × rvS)) (hK138 : ∀ (a0 : Nat) (x1 : Int32) (x2 : Int32) (x4 : Int32) (x6 : Int32) (x7 : Int32) (x8 : Int32) (x9 : Int32) (S : rvS) (r : Int32) (S' : rvS), K138 a0 x1 x2 x4 x6 x7 x8 x9 S = some (r, S') → rv_Ev mX13_keep 6 138 [(0, .ref a0), (1, .int x1), (2, .int x2), (4, .int x4), (6, .int x6), (7, .int x7), (8, .int x8), (9, .int x9)] [] S (some (.int r)) S') : ∀ (k : Nat) (S : rvS) (a0 : Nat) (x1 : Int32) (x2 : Int32) (x4 : Int32) (x6 : Int32) (x7 : Int32) (x8 : Int32) (x9 : Int32) (x12 : Int32) (r : Int32) (S' : rvS), cX13_keep_262 n K138 k S a0 x1 x2 x4 x6 x7 x8 x9 x12 = some (r, S') → rv_Ev mX13_keep 6 262 [(0, .ref a0), (1, .int x1), (2, .int x2), (4, .int x4), (6, .int x6), (7, .int x7), (8, .int x8), (9, .int x9), (12, .int x12)] [] S (some (.int r)) S' := by
  intro k
  induction k with
  | zero => intro S a0 x1 x2 x4 x6 x7 x8 x9 x12 r S' h; exact absurd h (by simp [cX13_keep_262])
  | succ k ih =>
    intro S a0 x1 x2 x4 x6 x7 x8 x9 x12 r S' h
    unfold cX13_keep_262 at h
    refine re_iload (pc := 262) 8 (by decide +kernel : decode cX13_keep 262 = .ok (.iload 12, 2)) rfl ?_
    refine re_bipush (pc := 264) (100 : Int32) (by decide +kernel : decode cX13_keep 264 = .ok (.bipush 100, 2)) (by decide) ?_
    rcases rv_if_e h with ⟨g1_, h⟩ | ⟨g1_, h⟩
    · refine re_icmp_ge_t (pc := 266) 289 (by decide +kernel : decode cX13_keep 266 = .ok (.if_icmp .ge 23, 3)) (by decide) g1_ ?_
      obtain ⟨x2_, g3_, h⟩ := rv_lt_e h
      refine re_iinc (pc := 289) 7 x2_ (lv1 := [(9, .int x2_), (0, .ref a0), (1, .int x1), (2, .int x2), (4, .int x4), (6, .int x6), (7, .int x7), (8, .int x8), (12, .int x12)]) (by decide +kernel : decode cX13_keep 289 = .ok (.iinc 9 1, 3)) rfl g3_ (by decide) rfl ?_
      refine re_goto (pc := 292) 138 (by decide +kernel : decode cX13_keep 292 = .ok (.goto (-154), 3)) (by decide) ?_
      refine re_sub [1, 2, 3, 4, 5, 6, 7, 0] (lv1 := [(0, .ref a0), (1, .int x1), (2, .int x2), (4, .int x4), (6, .int x6), (7, .int x7), (8, .int x8), (9, .int x2_)]) rfl ?_
      exact hK138 a0 x1 x2 x4 x6 x7 x8 x2_ S _ _ h
    · refine re_icmp_ge_f (pc := 266) 289 (by decide +kernel : decode cX13_keep 266 = .ok (.if_icmp .ge 23, 3)) (by decide) g1_ ?_
      refine re_aloadn (pc := 269) 0 (by decide +kernel : decode cX13_keep 269 = .ok (.aload_n 0, 1)) rfl ?_
      obtain ⟨a4_, g5_, h⟩ := rv_b_e h
      refine re_gR (pc := 270) g5_ lfX13_56 rfl (by decide +kernel : decode cX13_keep 270 = .ok (.getfield 56, 3)) ?_
      refine re_iload (pc := 273) 8 (by decide +kernel : decode cX13_keep 273 = .ok (.iload 12, 2)) rfl ?_
      refine re_aloadn (pc := 275) 0 (by decide +kernel : decode cX13_keep 275 = .ok (.aload_n 0, 1)) rfl ?_
      obtain ⟨a6_, g7_, h⟩ := rv_b_e h
      refine re_gR (pc := 276) g7_ lfX13_59 rfl (by decide +kernel : decode cX13_keep 276 = .ok (.getfield 59, 3)) ?_
      refine re_iload (pc := 279) 8 (by decide +kernel : decode cX13_keep 279 = .ok (.iload 12, 2)) rfl ?_
      obtain ⟨x8_, g9_, h⟩ := rv_b_e h
      refine re_aZ (pc := 281) g9_ (by decide +kernel : decode cX13_keep 281 = .ok (.baload, 1)) ?_
      obtain ⟨S10_, g11_, h⟩ := rv_b_e h
      refine re_uZ (pc := 282) g11_ (by decide +kernel : decode cX13_keep 282 = .ok (.bastore, 1)) ?_
      obtain ⟨x12_, g13_, h⟩ := rv_lt_e h
      refine re_iinc (pc := 283) 8 x12_ (lv1 := [(12, .int x12_), (0, .ref a0), (1, .int x1), (2, .int x2), (4, .int x4), (6, .int x6), (7, .int x7), (8, .int x8), (9, .int x9)]) (by decide +kernel : decode cX13_keep 283 = .ok (.iinc 12 1, 3)) rfl g13_ (by decide) rfl ?_
      refine re_goto (pc := 286) 262 (by decide +kernel : decode cX13_keep 286 = .ok (.goto (-24), 3)) (by decide) ?_
      refine re_sub [1, 2, 3, 4, 5, 6, 7, 8, 0] (lv1 := [(0, .ref a0), (1, .int x1), (2, .int x2), (4, .int x4), (6, .int x6), (7, .int x7), (8, .int x8), (9, .int x9), (12, .int x12_)]) rfl ?_
      exact ih S10_ a0 x1 x2 x4 x6 x7 x8 x9 x12_ _ _ h
noncomputable def cX13_keep_242 (n : Nat) (K138 : Nat → Int32 → Int32 → Int32 → Int32 → Int32 → Int32 → Int32 → rvS → Option (Int32 × rvS)) (S : rvS) (a0 : Nat) (x1 : Int32) (x2 : Int32) (x4 : Int32) (x6 : Int32) (x7 : Int32) (x8 : Int32) (x9 : Int32) (x11 : Int32) : Option (Int32 × rvS) :=
  (rv_gR S 11 a0 27).bind fun a1_ =>
  if x11 = 0 then (
    (rv_uI S a1_ x9 (0 : Int32)).bind fun S4_ =>
    cX13_keep_262 n K138 n S4_ a0 x1 x2 x4 x6 x7 x8 x9 (0 : Int32))
  else (
    (rv_uI S a1_ x9 (1 : Int32)).bind fun S6_ =>
    cX13_keep_262 n K138 n S6_ a0 x1 x2 x4 x6 x7 x8 x9 (0 : Int32))
set_option maxRecDepth 20000 in
set_option maxHeartbeats 4000000 in
theorem eX13_keep_242 (n : Nat) (K138 : Nat → Int32 → Int32 → Int32 → Int32 → Int32 → Int32 → Int32 → rvS → Option (Int32 × rvS)) (hK138 : ∀ (a0 : Nat) (x1 : Int32) (x2 : Int32) (x4 : Int32) (x6 : Int32) (x7 : Int32) (x8 : Int32) (x9 : Int32) (S : rvS) (r : Int32) (S' : rvS), K138 a0 x1 x2 x4 x6 x7 x8 x9 S = some (r, S') → rv_Ev mX13_keep 6 138 [(0, .ref a0), (1, .int x1), (2, .int x2), (4, .int x4), (6, .int x6), (7, .int x7), (8, .int x8), (9, .int x9)] [] S (some (.int r)) S') (S : rvS) (a0 : Nat) (x1 : Int32) (x2 : Int32) (x4 : Int32) (x6 : Int32) (x7 : Int32) (x8 : Int32) (x9 : Int32) (x11 : Int32) (r : Int32) (S' : rvS) (h : cX13_keep_242 n K138 S a0 x1 x2 x4 x6 x7 x8 x9 x11 = some (r, S')) : rv_Ev mX13_keep 6 242 [(0, .ref a0), (1, .int x1), (2, .int x2), (4, .int x4), (6, .int x6), (7, .int x7), (8, .int x8), (9, .int x9), (11, .int x11)] [] S (some (.int r)) S' := by
  unfold cX13_keep_242 at h
  refine re_aloadn (pc := 242) 0 (by decide +kernel : decode cX13_keep 242 = .ok (.aload_n 0, 1)) rfl ?_
  obtain ⟨a1_, g2_, h⟩ := rv_b_e h
  refine re_gR (pc := 243) g2_ lfX13_49 rfl (by decide +kernel : decode cX13_keep 243 = .ok (.getfield 49, 3)) ?_
  refine re_iload (pc := 246) 7 (by decide +kernel : decode cX13_keep 246 = .ok (.iload 9, 2)) rfl ?_
  refine re_iload (pc := 248) 8 (by decide +kernel : decode cX13_keep 248 = .ok (.iload 11, 2)) rfl ?_
  rcases rv_if_e h with ⟨g3_, h⟩ | ⟨g3_, h⟩
  · refine re_if_eq_t (pc := 250) 257 (by decide +kernel : decode cX13_keep 250 = .ok (.ifCond .eq 7, 3)) (by decide) g3_ ?_
    refine re_iconst (pc := 257) (0 : Int32) (by decide +kernel : decode cX13_keep 257 = .ok (.iconst 0, 1)) (by decide) ?_
    obtain ⟨S4_, g5_, h⟩ := rv_b_e h
    refine re_uI (pc := 258) g5_ (by decide +kernel : decode cX13_keep 258 = .ok (.iastore, 1)) ?_
    refine re_iconst (pc := 259) (0 : Int32) (by decide +kernel : decode cX13_keep 259 = .ok (.iconst 0, 1)) (by decide) ?_
    refine re_istore (pc := 260) (lv1 := [(12, .int (0 : Int32)), (0, .ref a0), (1, .int x1), (2, .int x2), (4, .int x4), (6, .int x6), (7, .int x7), (8, .int x8), (9, .int x9), (11, .int x11)]) (by decide +kernel : decode cX13_keep 260 = .ok (.istore 12, 2)) (by decide) rfl ?_
    refine re_sub [1, 2, 3, 4, 5, 6, 7, 8, 0] (lv1 := [(0, .ref a0), (1, .int x1), (2, .int x2), (4, .int x4), (6, .int x6), (7, .int x7), (8, .int x8), (9, .int x9), (12, .int (0 : Int32))]) rfl ?_
    exact eX13_keep_262 n K138 hK138 n S4_ a0 x1 x2 x4 x6 x7 x8 x9 (0 : Int32) _ _ h
  · refine re_if_eq_f (pc := 250) 257 (by decide +kernel : decode cX13_keep 250 = .ok (.ifCond .eq 7, 3)) (by decide) g3_ ?_
    refine re_iconst (pc := 253) (1 : Int32) (by decide +kernel : decode cX13_keep 253 = .ok (.iconst 1, 1)) (by decide) ?_
    refine re_goto (pc := 254) 258 (by decide +kernel : decode cX13_keep 254 = .ok (.goto 4, 3)) (by decide) ?_
    obtain ⟨S6_, g7_, h⟩ := rv_b_e h
    refine re_uI (pc := 258) g7_ (by decide +kernel : decode cX13_keep 258 = .ok (.iastore, 1)) ?_
    refine re_iconst (pc := 259) (0 : Int32) (by decide +kernel : decode cX13_keep 259 = .ok (.iconst 0, 1)) (by decide) ?_
    refine re_istore (pc := 260) (lv1 := [(12, .int (0 : Int32)), (0, .ref a0), (1, .int x1), (2, .int x2), (4, .int x4), (6, .int x6), (7, .int x7), (8, .int x8), (9, .int x9), (11, .int x11)]) (by decide +kernel : decode cX13_keep 260 = .ok (.istore 12, 2)) (by decide) rfl ?_
    refine re_sub [1, 2, 3, 4, 5, 6, 7, 8, 0] (lv1 := [(0, .ref a0), (1, .int x1), (2, .int x2), (4, .int x4), (6, .int x6), (7, .int x7), (8, .int x8), (9, .int x9), (12, .int (0 : Int32))]) rfl ?_
    exact eX13_keep_262 n K138 hK138 n S6_ a0 x1 x2 x4 x6 x7 x8 x9 (0 : Int32) _ _ h
noncomputable def cX13_keep_227 (n : Nat) (K138 : Nat → Int32 → Int32 → Int32 → Int32 → Int32 → Int32 → Int32 → rvS → Option (Int32 × rvS)) (S : rvS) (a0 : Nat) (x1 : Int32) (x2 : Int32) (x4 : Int32) (x6 : Int32) (x7 : Int32) (x8 : Int32) (x9 : Int32) (x10 : Int32) (x11 : Int32) : Option (Int32 × rvS) :=
  if x11 = 0 then (
    cX13_keep_242 n K138 S a0 x1 x2 x4 x6 x7 x8 x9 x11)
  else (
    rv_lt (x8 - x10) fun x2_ =>
    rv_lt (x6 + (-1)) fun x4_ =>
    cX13_keep_242 n K138 S a0 x1 x2 x4 x4_ x7 x2_ x9 x11)
set_option maxRecDepth 20000 in
set_option maxHeartbeats 4000000 in
theorem eX13_keep_227 (n : Nat) (K138 : Nat → Int32 → Int32 → Int32 → Int32 → Int32 → Int32 → Int32 → rvS → Option (Int32 × rvS)) (hK138 : ∀ (a0 : Nat) (x1 : Int32) (x2 : Int32) (x4 : Int32) (x6 : Int32) (x7 : Int32) (x8 : Int32) (x9 : Int32) (S : rvS) (r : Int32) (S' : rvS), K138 a0 x1 x2 x4 x6 x7 x8 x9 S = some (r, S') → rv_Ev mX13_keep 6 138 [(0, .ref a0), (1, .int x1), (2, .int x2), (4, .int x4), (6, .int x6), (7, .int x7), (8, .int x8), (9, .int x9)] [] S (some (.int r)) S') (S : rvS) (a0 : Nat) (x1 : Int32) (x2 : Int32) (x4 : Int32) (x6 : Int32) (x7 : Int32) (x8 : Int32) (x9 : Int32) (x10 : Int32) (x11 : Int32) (r : Int32) (S' : rvS) (h : cX13_keep_227 n K138 S a0 x1 x2 x4 x6 x7 x8 x9 x10 x11 = some (r, S')) : rv_Ev mX13_keep 6 227 [(0, .ref a0), (1, .int x1), (2, .int x2), (4, .int x4), (6, .int x6), (7, .int x7), (8, .int x8), (9, .int x9), (10, .int x10), (11, .int x11)] [] S (some (.int r)) S' := by
  unfold cX13_keep_227 at h
  refine re_iload (pc := 227) 9 (by decide +kernel : decode cX13_keep 227 = .ok (.iload 11, 2)) rfl ?_
  rcases rv_if_e h with ⟨g1_, h⟩ | ⟨g1_, h⟩
  · refine re_if_eq_t (pc := 229) 242 (by decide +kernel : decode cX13_keep 229 = .ok (.ifCond .eq 13, 3)) (by decide) g1_ ?_
    refine re_sub [0, 1, 2, 3, 4, 5, 6, 7, 9] (lv1 := [(0, .ref a0), (1, .int x1), (2, .int x2), (4, .int x4), (6, .int x6), (7, .int x7), (8, .int x8), (9, .int x9), (11, .int x11)]) rfl ?_
    exact eX13_keep_242 n K138 hK138 S a0 x1 x2 x4 x6 x7 x8 x9 x11 _ _ h
  · refine re_if_eq_f (pc := 229) 242 (by decide +kernel : decode cX13_keep 229 = .ok (.ifCond .eq 13, 3)) (by decide) g1_ ?_
    refine re_iload (pc := 232) 6 (by decide +kernel : decode cX13_keep 232 = .ok (.iload 8, 2)) rfl ?_
    refine re_iload (pc := 234) 8 (by decide +kernel : decode cX13_keep 234 = .ok (.iload 10, 2)) rfl ?_
    refine re_isub (pc := 236) (by decide +kernel : decode cX13_keep 236 = .ok (.isub, 1)) ?_
    obtain ⟨x2_, g3_, h⟩ := rv_lt_e h
    refine re_nI (pc := 237) g3_ ?_
    refine re_istore (pc := 237) (lv1 := [(8, .int x2_), (0, .ref a0), (1, .int x1), (2, .int x2), (4, .int x4), (6, .int x6), (7, .int x7), (9, .int x9), (10, .int x10), (11, .int x11)]) (by decide +kernel : decode cX13_keep 237 = .ok (.istore 8, 2)) (by decide) rfl ?_
    obtain ⟨x4_, g5_, h⟩ := rv_lt_e h
    refine re_iinc (pc := 239) 5 x4_ (lv1 := [(6, .int x4_), (8, .int x2_), (0, .ref a0), (1, .int x1), (2, .int x2), (4, .int x4), (7, .int x7), (9, .int x9), (10, .int x10), (11, .int x11)]) (by decide +kernel : decode cX13_keep 239 = .ok (.iinc 6 (-1), 3)) rfl g5_ (by decide) rfl ?_
    refine re_sub [2, 3, 4, 5, 0, 6, 1, 7, 9] (lv1 := [(0, .ref a0), (1, .int x1), (2, .int x2), (4, .int x4), (6, .int x4_), (7, .int x7), (8, .int x2_), (9, .int x9), (11, .int x11)]) rfl ?_
    exact eX13_keep_242 n K138 hK138 S a0 x1 x2 x4 x4_ x7 x2_ x9 x11 _ _ h
noncomputable def cX13_keep_220 (n : Nat) (K138 : Nat → Int32 → Int32 → Int32 → Int32 → Int32 → Int32 → Int32 → rvS → Option (Int32 × rvS)) (S : rvS) (a0 : Nat) (x1 : Int32) (x2 : Int32) (x4 : Int32) (x6 : Int32) (x7 : Int32) (x8 : Int32) (x9 : Int32) (x10 : Int32) (x11 : Int32) (t0 : Nat) (t1 : Int32) (t2 : Int32) : Option (Int32 × rvS) :=
  (rv_ck S 11 t0).bind fun u1_ =>
  (fnX13_keepsOn n S t0 t1 t2 x8 x6).bind fun S4_ =>
  cX13_keep_227 n K138 S4_ a0 x1 x2 x4 x6 x7 x8 x9 x10 x11
set_option maxRecDepth 20000 in
set_option maxHeartbeats 4000000 in
theorem eX13_keep_220 (n : Nat) (K138 : Nat → Int32 → Int32 → Int32 → Int32 → Int32 → Int32 → Int32 → rvS → Option (Int32 × rvS)) (hK138 : ∀ (a0 : Nat) (x1 : Int32) (x2 : Int32) (x4 : Int32) (x6 : Int32) (x7 : Int32) (x8 : Int32) (x9 : Int32) (S : rvS) (r : Int32) (S' : rvS), K138 a0 x1 x2 x4 x6 x7 x8 x9 S = some (r, S') → rv_Ev mX13_keep 6 138 [(0, .ref a0), (1, .int x1), (2, .int x2), (4, .int x4), (6, .int x6), (7, .int x7), (8, .int x8), (9, .int x9)] [] S (some (.int r)) S') (S : rvS) (a0 : Nat) (x1 : Int32) (x2 : Int32) (x4 : Int32) (x6 : Int32) (x7 : Int32) (x8 : Int32) (x9 : Int32) (x10 : Int32) (x11 : Int32) (t0 : Nat) (t1 : Int32) (t2 : Int32) (r : Int32) (S' : rvS) (h : cX13_keep_220 n K138 S a0 x1 x2 x4 x6 x7 x8 x9 x10 x11 t0 t1 t2 = some (r, S')) : rv_Ev mX13_keep 6 220 [(0, .ref a0), (1, .int x1), (2, .int x2), (4, .int x4), (6, .int x6), (7, .int x7), (8, .int x8), (9, .int x9), (10, .int x10), (11, .int x11)] [.int t2, .int t1, .ref t0] S (some (.int r)) S' := by
  unfold cX13_keep_220 at h
  refine re_iload (pc := 220) 6 (by decide +kernel : decode cX13_keep 220 = .ok (.iload 8, 2)) rfl ?_
  refine re_iload (pc := 222) 4 (by decide +kernel : decode cX13_keep 222 = .ok (.iload 6, 2)) rfl ?_
  obtain ⟨u1_, g2_, h⟩ := rv_b_e h
  obtain ⟨S4_, g5_, h⟩ := rv_b_e h
  have m3_ := metX13_keepsOn n S t0 t1 t2 x8 x6 _ g5_
  have z6_ : rv_same S S4_ := m3_.sh rfl
  refine re_cV (pc := 224) [.int t1, .int t2, .int x8, .int x6] m3_ (rv_okl.k z6_) (rv_up.sh z6_) (by decide) (rv_ck_e g2_) ⟨by decide, rfl⟩ (Nat.le_of_ble_eq_true rfl) lVX13_343 rfl (by decide +kernel : decode cX13_keep 224 = .ok (.invokevirtual 343, 3)) ?_
  exact eX13_keep_227 n K138 hK138 S4_ a0 x1 x2 x4 x6 x7 x8 x9 x10 x11 _ _ h
noncomputable def cX13_keep_171 (n : Nat) (K138 : Nat → Int32 → Int32 → Int32 → Int32 → Int32 → Int32 → Int32 → rvS → Option (Int32 × rvS)) (S : rvS) (a0 : Nat) (x1 : Int32) (x2 : Int32) (x4 : Int32) (x6 : Int32) (x7 : Int32) (x8 : Int32) (x9 : Int32) (t0 : Int32) : Option (Int32 × rvS) :=
  (rv_ck S 11 a0).bind fun u1_ =>
  rv_bp (fnX13_canGive n S a0 x9 t0 x8 x6) fun x4_ S5_ =>
  if x4_ = 0 then (
    (rv_ck S5_ 11 a0).bind fun u9_ =>
    rv_bp (fnX13_isFor n S5_ a0 x9 x1 x4) fun x12_ S13_ =>
    if x12_ = 0 then (
      cX13_keep_220 n K138 S13_ a0 x1 x2 x4 x6 x7 x8 x9 t0 x4_ a0 x9 (1000 : Int32))
    else (
      (rv_ck S13_ 11 a0).bind fun u17_ =>
      (fnX13_ofCoin n S13_ a0 x9 (0 : Int32)).bind fun x20_ =>
      cX13_keep_220 n K138 S13_ a0 x1 x2 x4 x6 x7 x8 x9 t0 x4_ a0 x9 x20_))
  else (
    cX13_keep_227 n K138 S5_ a0 x1 x2 x4 x6 x7 x8 x9 t0 x4_)
set_option maxRecDepth 20000 in
set_option maxHeartbeats 4000000 in
theorem eX13_keep_171 (n : Nat) (K138 : Nat → Int32 → Int32 → Int32 → Int32 → Int32 → Int32 → Int32 → rvS → Option (Int32 × rvS)) (hK138 : ∀ (a0 : Nat) (x1 : Int32) (x2 : Int32) (x4 : Int32) (x6 : Int32) (x7 : Int32) (x8 : Int32) (x9 : Int32) (S : rvS) (r : Int32) (S' : rvS), K138 a0 x1 x2 x4 x6 x7 x8 x9 S = some (r, S') → rv_Ev mX13_keep 6 138 [(0, .ref a0), (1, .int x1), (2, .int x2), (4, .int x4), (6, .int x6), (7, .int x7), (8, .int x8), (9, .int x9)] [] S (some (.int r)) S') (S : rvS) (a0 : Nat) (x1 : Int32) (x2 : Int32) (x4 : Int32) (x6 : Int32) (x7 : Int32) (x8 : Int32) (x9 : Int32) (t0 : Int32) (r : Int32) (S' : rvS) (h : cX13_keep_171 n K138 S a0 x1 x2 x4 x6 x7 x8 x9 t0 = some (r, S')) : rv_Ev mX13_keep 6 171 [(0, .ref a0), (1, .int x1), (2, .int x2), (4, .int x4), (6, .int x6), (7, .int x7), (8, .int x8), (9, .int x9)] [.int t0] S (some (.int r)) S' := by
  unfold cX13_keep_171 at h
  refine re_istore (pc := 171) (lv1 := [(10, .int t0), (0, .ref a0), (1, .int x1), (2, .int x2), (4, .int x4), (6, .int x6), (7, .int x7), (8, .int x8), (9, .int x9)]) (by decide +kernel : decode cX13_keep 171 = .ok (.istore 10, 2)) (by decide) rfl ?_
  refine re_aloadn (pc := 173) 1 (by decide +kernel : decode cX13_keep 173 = .ok (.aload_n 0, 1)) rfl ?_
  refine re_iload (pc := 174) 8 (by decide +kernel : decode cX13_keep 174 = .ok (.iload 9, 2)) rfl ?_
  refine re_iload (pc := 176) 0 (by decide +kernel : decode cX13_keep 176 = .ok (.iload 10, 2)) rfl ?_
  refine re_iload (pc := 178) 7 (by decide +kernel : decode cX13_keep 178 = .ok (.iload 8, 2)) rfl ?_
  refine re_iload (pc := 180) 5 (by decide +kernel : decode cX13_keep 180 = .ok (.iload 6, 2)) rfl ?_
  obtain ⟨u1_, g2_, h⟩ := rv_b_e h
  obtain ⟨x4_, S5_, g6_, h⟩ := rv_bp_e h
  have m3_ := metX13_canGive n S a0 x9 t0 x8 x6 _ _ g6_
  have z7_ : rv_same S S5_ := m3_.sh rfl
  refine re_cV (pc := 182) [.int x9, .int t0, .int x8, .int x6] m3_ (rv_okl.k z7_) (rv_up.sh z7_) (by decide) (rv_ck_e g2_) ⟨by decide, rfl⟩ (Nat.le_of_ble_eq_true rfl) lVX13_339 rfl (by decide +kernel : decode cX13_keep 182 = .ok (.invokevirtual 339, 3)) ?_
  refine re_istore (pc := 185) (lv1 := [(11, .int x4_), (10, .int t0), (0, .ref a0), (1, .int x1), (2, .int x2), (4, .int x4), (6, .int x6), (7, .int x7), (8, .int x8), (9, .int x9)]) (by decide +kernel : decode cX13_keep 185 = .ok (.istore 11, 2)) (by decide) rfl ?_
  refine re_iload (pc := 187) 0 (by decide +kernel : decode cX13_keep 187 = .ok (.iload 11, 2)) rfl ?_
  rcases rv_if_e h with ⟨g8_, h⟩ | ⟨g8_, h⟩
  · refine re_if_ne_f (pc := 189) 227 (by decide +kernel : decode cX13_keep 189 = .ok (.ifCond .ne 38, 3)) (by decide) g8_ ?_
    refine re_aloadn (pc := 192) 2 (by decide +kernel : decode cX13_keep 192 = .ok (.aload_n 0, 1)) rfl ?_
    refine re_iload (pc := 193) 9 (by decide +kernel : decode cX13_keep 193 = .ok (.iload 9, 2)) rfl ?_
    refine re_aloadn (pc := 195) 2 (by decide +kernel : decode cX13_keep 195 = .ok (.aload_n 0, 1)) rfl ?_
    refine re_iload (pc := 196) 9 (by decide +kernel : decode cX13_keep 196 = .ok (.iload 9, 2)) rfl ?_
    refine re_iloadn (pc := 198) 3 (by decide +kernel : decode cX13_keep 198 = .ok (.iload_n 1, 1)) rfl ?_
    refine re_iload (pc := 199) 5 (by decide +kernel : decode cX13_keep 199 = .ok (.iload 4, 2)) rfl ?_
    obtain ⟨u9_, g10_, h⟩ := rv_b_e h
    obtain ⟨x12_, S13_, g14_, h⟩ := rv_bp_e h
    have m11_ := metX13_isFor n S5_ a0 x9 x1 x4 _ _ g14_
    have z15_ : rv_same S5_ S13_ := m11_.sh rfl
    refine re_cV (pc := 201) [.int x9, .int x1, .int x4] m11_ (rv_okl.k z15_) (rv_up.sh z15_) (by decide) (rv_ck_e g10_) ⟨by decide, rfl⟩ (Nat.le_of_ble_eq_true rfl) lVX13_313 rfl (by decide +kernel : decode cX13_keep 201 = .ok (.invokevirtual 313, 3)) ?_
    rcases rv_if_e h with ⟨g16_, h⟩ | ⟨g16_, h⟩
    · refine re_if_eq_t (pc := 204) 217 (by decide +kernel : decode cX13_keep 204 = .ok (.ifCond .eq 13, 3)) (by decide) g16_ ?_
      refine re_sipush (pc := 217) (1000 : Int32) (by decide +kernel : decode cX13_keep 217 = .ok (.sipush 1000, 3)) (by decide) ?_
      refine re_sub [2, 3, 4, 5, 6, 7, 8, 9, 1, 0] (lv1 := [(0, .ref a0), (1, .int x1), (2, .int x2), (4, .int x4), (6, .int x6), (7, .int x7), (8, .int x8), (9, .int x9), (10, .int t0), (11, .int x4_)]) rfl ?_
      exact eX13_keep_220 n K138 hK138 S13_ a0 x1 x2 x4 x6 x7 x8 x9 t0 x4_ a0 x9 (1000 : Int32) _ _ h
    · refine re_if_eq_f (pc := 204) 217 (by decide +kernel : decode cX13_keep 204 = .ok (.ifCond .eq 13, 3)) (by decide) g16_ ?_
      refine re_aloadn (pc := 207) 2 (by decide +kernel : decode cX13_keep 207 = .ok (.aload_n 0, 1)) rfl ?_
      refine re_iload (pc := 208) 9 (by decide +kernel : decode cX13_keep 208 = .ok (.iload 9, 2)) rfl ?_
      refine re_iconst (pc := 210) (0 : Int32) (by decide +kernel : decode cX13_keep 210 = .ok (.iconst 0, 1)) (by decide) ?_
      obtain ⟨u17_, g18_, h⟩ := rv_b_e h
      obtain ⟨x20_, g21_, h⟩ := rv_b_e h
      have m19_ := metX13_ofCoin n S13_ a0 x9 (0 : Int32) _ g21_
      refine re_cV (pc := 211) [.int x9, .int (0 : Int32)] m19_ (rv_okl.k ⟨rfl, rfl⟩) (rv_up.rf _ _) (by decide) (rv_ck_e g18_) ⟨by decide, rfl⟩ (Nat.le_of_ble_eq_true rfl) lVX13_271 rfl (by decide +kernel : decode cX13_keep 211 = .ok (.invokevirtual 271, 3)) ?_
      refine re_goto (pc := 214) 220 (by decide +kernel : decode cX13_keep 214 = .ok (.goto 6, 3)) (by decide) ?_
      refine re_sub [2, 3, 4, 5, 6, 7, 8, 9, 1, 0] (lv1 := [(0, .ref a0), (1, .int x1), (2, .int x2), (4, .int x4), (6, .int x6), (7, .int x7), (8, .int x8), (9, .int x9), (10, .int t0), (11, .int x4_)]) rfl ?_
      exact eX13_keep_220 n K138 hK138 S13_ a0 x1 x2 x4 x6 x7 x8 x9 t0 x4_ a0 x9 x20_ _ _ h
  · refine re_if_ne_t (pc := 189) 227 (by decide +kernel : decode cX13_keep 189 = .ok (.ifCond .ne 38, 3)) (by decide) g8_ ?_
    refine re_sub [2, 3, 4, 5, 6, 7, 8, 9, 1, 0] (lv1 := [(0, .ref a0), (1, .int x1), (2, .int x2), (4, .int x4), (6, .int x6), (7, .int x7), (8, .int x8), (9, .int x9), (10, .int t0), (11, .int x4_)]) rfl ?_
    exact eX13_keep_227 n K138 hK138 S5_ a0 x1 x2 x4 x6 x7 x8 x9 t0 x4_ _ _ h
noncomputable def cX13_keep_295 (n : Nat) (S : rvS) (a0 : Nat) (x7 : Int32) : Option (Int32 × rvS) :=
  (rv_ck S 11 a0).bind fun u1_ =>
  (fnX13_tell n S a0).bind fun S4_ =>
  some (x7, S4_)
set_option maxRecDepth 20000 in
set_option maxHeartbeats 4000000 in
theorem eX13_keep_295 (n : Nat) (S : rvS) (a0 : Nat) (x7 : Int32) (r : Int32) (S' : rvS) (h : cX13_keep_295 n S a0 x7 = some (r, S')) : rv_Ev mX13_keep 6 295 [(0, .ref a0), (7, .int x7)] [] S (some (.int r)) S' := by
  unfold cX13_keep_295 at h
  refine re_aloadn (pc := 295) 0 (by decide +kernel : decode cX13_keep 295 = .ok (.aload_n 0, 1)) rfl ?_
  obtain ⟨u1_, g2_, h⟩ := rv_b_e h
  obtain ⟨S4_, g5_, h⟩ := rv_b_e h
  have m3_ := metX13_tell n S a0 _ g5_
  have z6_ : rv_same S S4_ := m3_.sh rfl
  refine re_cV (pc := 296) [] m3_ (rv_okl.k z6_) (rv_up.sh z6_) (by decide) (rv_ck_e g2_) ⟨by decide, rfl⟩ (Nat.le_of_ble_eq_true rfl) lVX13_323 rfl (by decide +kernel : decode cX13_keep 296 = .ok (.invokevirtual 323, 3)) ?_
  refine re_iload (pc := 299) 1 (by decide +kernel : decode cX13_keep 299 = .ok (.iload 7, 2)) rfl ?_
  cases h
  exact re_iret (fun ty hty => by cases hty; rfl) (by decide +kernel : decode cX13_keep 301 = .ok (.ireturn, 1))
noncomputable def cX13_keep_138 (n : Nat) : Nat → rvS → Nat → Int32 → Int32 → Int32 → Int32 → Int32 → Int32 → Int32 → Option (Int32 × rvS)
  | 0, _, _, _, _, _, _, _, _, _ => none
  | k + 1, S, a0, x1, x2, x4, x6, x7, x8, x9 =>
    (rv_ck S 11 a0).bind fun u1_ =>
    (fnX13_coins n S a0).bind fun x4_ =>
    if x4_ ≤ x9 then (
      cX13_keep_295 n S a0 x7)
    else (
      (rv_ck S 11 a0).bind fun u7_ =>
      rv_bp (fnX13_isFor n S a0 x9 x1 x2) fun x10_ S11_ =>
      if x10_ = 0 then (
        cX13_keep_171 n (fun a0 x1 x2 x4 x6 x7 x8 x9 S => cX13_keep_138 n k S a0 x1 x2 x4 x6 x7 x8 x9) S11_ a0 x1 x2 x4 x6 x7 x8 x9 (1000 : Int32))
      else (
        (rv_ck S11_ 11 a0).bind fun u15_ =>
        (fnX13_ofCoin n S11_ a0 x9 (0 : Int32)).bind fun x18_ =>
        cX13_keep_171 n (fun a0 x1 x2 x4 x6 x7 x8 x9 S => cX13_keep_138 n k S a0 x1 x2 x4 x6 x7 x8 x9) S11_ a0 x1 x2 x4 x6 x7 x8 x9 x18_))
set_option maxRecDepth 20000 in
set_option maxHeartbeats 4000000 in
theorem eX13_keep_138 (n : Nat) : ∀ (k : Nat) (S : rvS) (a0 : Nat) (x1 : Int32) (x2 : Int32) (x4 : Int32) (x6 : Int32) (x7 : Int32) (x8 : Int32) (x9 : Int32) (r : Int32) (S' : rvS), cX13_keep_138 n k S a0 x1 x2 x4 x6 x7 x8 x9 = some (r, S') → rv_Ev mX13_keep 6 138 [(0, .ref a0), (1, .int x1), (2, .int x2), (4, .int x4), (6, .int x6), (7, .int x7), (8, .int x8), (9, .int x9)] [] S (some (.int r)) S' := by
  intro k
  induction k with
  | zero => intro S a0 x1 x2 x4 x6 x7 x8 x9 r S' h; exact absurd h (by simp [cX13_keep_138])
  | succ k ih =>
    intro S a0 x1 x2 x4 x6 x7 x8 x9 r S' h
    unfold cX13_keep_138 at h
    refine re_iload (pc := 138) 7 (by decide +kernel : decode cX13_keep 138 = .ok (.iload 9, 2)) rfl ?_
    refine re_aloadn (pc := 140) 0 (by decide +kernel : decode cX13_keep 140 = .ok (.aload_n 0, 1)) rfl ?_
    obtain ⟨u1_, g2_, h⟩ := rv_b_e h
    obtain ⟨x4_, g5_, h⟩ := rv_b_e h
    have m3_ := metX13_coins n S a0 _ g5_
    refine re_cV (pc := 141) [] m3_ (rv_okl.k ⟨rfl, rfl⟩) (rv_up.rf _ _) (by decide) (rv_ck_e g2_) ⟨by decide, rfl⟩ (Nat.le_of_ble_eq_true rfl) lVX13_258 rfl (by decide +kernel : decode cX13_keep 141 = .ok (.invokevirtual 258, 3)) ?_
    rcases rv_if_e h with ⟨g6_, h⟩ | ⟨g6_, h⟩
    · refine re_icmp_ge_t (pc := 144) 295 (by decide +kernel : decode cX13_keep 144 = .ok (.if_icmp .ge 151, 3)) (by decide) g6_ ?_
      refine re_sub [0, 5] (lv1 := [(0, .ref a0), (7, .int x7)]) rfl ?_
      exact eX13_keep_295 n S a0 x7 _ _ h
    · refine re_icmp_ge_f (pc := 144) 295 (by decide +kernel : decode cX13_keep 144 = .ok (.if_icmp .ge 151, 3)) (by decide) g6_ ?_
      refine re_aloadn (pc := 147) 0 (by decide +kernel : decode cX13_keep 147 = .ok (.aload_n 0, 1)) rfl ?_
      refine re_iload (pc := 148) 7 (by decide +kernel : decode cX13_keep 148 = .ok (.iload 9, 2)) rfl ?_
      refine re_iloadn (pc := 150) 1 (by decide +kernel : decode cX13_keep 150 = .ok (.iload_n 1, 1)) rfl ?_
      refine re_iloadn (pc := 151) 2 (by decide +kernel : decode cX13_keep 151 = .ok (.iload_n 2, 1)) rfl ?_
      obtain ⟨u7_, g8_, h⟩ := rv_b_e h
      obtain ⟨x10_, S11_, g12_, h⟩ := rv_bp_e h
      have m9_ := metX13_isFor n S a0 x9 x1 x2 _ _ g12_
      have z13_ : rv_same S S11_ := m9_.sh rfl
      refine re_cV (pc := 152) [.int x9, .int x1, .int x2] m9_ (rv_okl.k z13_) (rv_up.sh z13_) (by decide) (rv_ck_e g8_) ⟨by decide, rfl⟩ (Nat.le_of_ble_eq_true rfl) lVX13_313 rfl (by decide +kernel : decode cX13_keep 152 = .ok (.invokevirtual 313, 3)) ?_
      rcases rv_if_e h with ⟨g14_, h⟩ | ⟨g14_, h⟩
      · refine re_if_eq_t (pc := 155) 168 (by decide +kernel : decode cX13_keep 155 = .ok (.ifCond .eq 13, 3)) (by decide) g14_ ?_
        refine re_sipush (pc := 168) (1000 : Int32) (by decide +kernel : decode cX13_keep 168 = .ok (.sipush 1000, 3)) (by decide) ?_
        exact eX13_keep_171 n (fun a0 x1 x2 x4 x6 x7 x8 x9 S => cX13_keep_138 n k S a0 x1 x2 x4 x6 x7 x8 x9) (fun a0 x1 x2 x4 x6 x7 x8 x9 S _ _ h => ih S a0 x1 x2 x4 x6 x7 x8 x9 _ _ h) S11_ a0 x1 x2 x4 x6 x7 x8 x9 (1000 : Int32) _ _ h
      · refine re_if_eq_f (pc := 155) 168 (by decide +kernel : decode cX13_keep 155 = .ok (.ifCond .eq 13, 3)) (by decide) g14_ ?_
        refine re_aloadn (pc := 158) 0 (by decide +kernel : decode cX13_keep 158 = .ok (.aload_n 0, 1)) rfl ?_
        refine re_iload (pc := 159) 7 (by decide +kernel : decode cX13_keep 159 = .ok (.iload 9, 2)) rfl ?_
        refine re_iconst (pc := 161) (0 : Int32) (by decide +kernel : decode cX13_keep 161 = .ok (.iconst 0, 1)) (by decide) ?_
        obtain ⟨u15_, g16_, h⟩ := rv_b_e h
        obtain ⟨x18_, g19_, h⟩ := rv_b_e h
        have m17_ := metX13_ofCoin n S11_ a0 x9 (0 : Int32) _ g19_
        refine re_cV (pc := 162) [.int x9, .int (0 : Int32)] m17_ (rv_okl.k ⟨rfl, rfl⟩) (rv_up.rf _ _) (by decide) (rv_ck_e g16_) ⟨by decide, rfl⟩ (Nat.le_of_ble_eq_true rfl) lVX13_271 rfl (by decide +kernel : decode cX13_keep 162 = .ok (.invokevirtual 271, 3)) ?_
        refine re_goto (pc := 165) 171 (by decide +kernel : decode cX13_keep 165 = .ok (.goto 6, 3)) (by decide) ?_
        exact eX13_keep_171 n (fun a0 x1 x2 x4 x6 x7 x8 x9 S => cX13_keep_138 n k S a0 x1 x2 x4 x6 x7 x8 x9) (fun a0 x1 x2 x4 x6 x7 x8 x9 S _ _ h => ih S a0 x1 x2 x4 x6 x7 x8 x9 _ _ h) S11_ a0 x1 x2 x4 x6 x7 x8 x9 x18_ _ _ h
noncomputable def cX13_keep_100 (n : Nat) : Nat → rvS → Nat → Int32 → Int32 → Int32 → Int32 → Int32 → Int32 → Int32 → Int32 → Option (Int32 × rvS)
  | 0, _, _, _, _, _, _, _, _, _, _ => none
  | k + 1, S, a0, x1, x2, x3, x4, x5, x6, x7, x8 =>
    if (100 : Int32) ≤ x8 then (
      cX13_keep_138 n n S a0 x1 x2 x4 x6 x7 x3 (0 : Int32))
    else (
      (rv_gR S 11 a0 29).bind fun a2_ =>
      if x8 = x5 then (
        (rv_uZ S a2_ x8 (1 : Int32)).bind fun S9_ =>
        rv_lt (x8 + (1)) fun x11_ =>
        cX13_keep_100 n k S9_ a0 x1 x2 x3 x4 x5 x6 x7 x11_)
      else (
        (rv_uZ S a2_ x8 (0 : Int32)).bind fun S5_ =>
        rv_lt (x8 + (1)) fun x7_ =>
        cX13_keep_100 n k S5_ a0 x1 x2 x3 x4 x5 x6 x7 x7_))
set_option maxRecDepth 20000 in
set_option maxHeartbeats 4000000 in
theorem eX13_keep_100 (n : Nat) : ∀ (k : Nat) (S : rvS) (a0 : Nat) (x1 : Int32) (x2 : Int32) (x3 : Int32) (x4 : Int32) (x5 : Int32) (x6 : Int32) (x7 : Int32) (x8 : Int32) (r : Int32) (S' : rvS), cX13_keep_100 n k S a0 x1 x2 x3 x4 x5 x6 x7 x8 = some (r, S') → rv_Ev mX13_keep 6 100 [(0, .ref a0), (1, .int x1), (2, .int x2), (3, .int x3), (4, .int x4), (5, .int x5), (6, .int x6), (7, .int x7), (8, .int x8)] [] S (some (.int r)) S' := by
  intro k
  induction k with
  | zero => intro S a0 x1 x2 x3 x4 x5 x6 x7 x8 r S' h; exact absurd h (by simp [cX13_keep_100])
  | succ k ih =>
    intro S a0 x1 x2 x3 x4 x5 x6 x7 x8 r S' h
    unfold cX13_keep_100 at h
    refine re_iload (pc := 100) 8 (by decide +kernel : decode cX13_keep 100 = .ok (.iload 8, 2)) rfl ?_
    refine re_bipush (pc := 102) (100 : Int32) (by decide +kernel : decode cX13_keep 102 = .ok (.bipush 100, 2)) (by decide) ?_
    rcases rv_if_e h with ⟨g1_, h⟩ | ⟨g1_, h⟩
    · refine re_icmp_ge_t (pc := 104) 132 (by decide +kernel : decode cX13_keep 104 = .ok (.if_icmp .ge 28, 3)) (by decide) g1_ ?_
      refine re_iloadn (pc := 132) 3 (by decide +kernel : decode cX13_keep 132 = .ok (.iload_n 3, 1)) rfl ?_
      refine re_istore (pc := 133) (lv1 := [(8, .int x3), (0, .ref a0), (1, .int x1), (2, .int x2), (3, .int x3), (4, .int x4), (5, .int x5), (6, .int x6), (7, .int x7)]) (by decide +kernel : decode cX13_keep 133 = .ok (.istore 8, 2)) (by decide) rfl ?_
      refine re_iconst (pc := 135) (0 : Int32) (by decide +kernel : decode cX13_keep 135 = .ok (.iconst 0, 1)) (by decide) ?_
      refine re_istore (pc := 136) (lv1 := [(9, .int (0 : Int32)), (8, .int x3), (0, .ref a0), (1, .int x1), (2, .int x2), (3, .int x3), (4, .int x4), (5, .int x5), (6, .int x6), (7, .int x7)]) (by decide +kernel : decode cX13_keep 136 = .ok (.istore 9, 2)) (by decide) rfl ?_
      refine re_sub [2, 3, 4, 6, 8, 9, 1, 0] (lv1 := [(0, .ref a0), (1, .int x1), (2, .int x2), (4, .int x4), (6, .int x6), (7, .int x7), (8, .int x3), (9, .int (0 : Int32))]) rfl ?_
      exact eX13_keep_138 n n S a0 x1 x2 x4 x6 x7 x3 (0 : Int32) _ _ h
    · refine re_icmp_ge_f (pc := 104) 132 (by decide +kernel : decode cX13_keep 104 = .ok (.if_icmp .ge 28, 3)) (by decide) g1_ ?_
      refine re_aloadn (pc := 107) 0 (by decide +kernel : decode cX13_keep 107 = .ok (.aload_n 0, 1)) rfl ?_
      obtain ⟨a2_, g3_, h⟩ := rv_b_e h
      refine re_gR (pc := 108) g3_ lfX13_56 rfl (by decide +kernel : decode cX13_keep 108 = .ok (.getfield 56, 3)) ?_
      refine re_iload (pc := 111) 8 (by decide +kernel : decode cX13_keep 111 = .ok (.iload 8, 2)) rfl ?_
      refine re_iload (pc := 113) 8 (by decide +kernel : decode cX13_keep 113 = .ok (.iload 8, 2)) rfl ?_
      refine re_iload (pc := 115) 5 (by decide +kernel : decode cX13_keep 115 = .ok (.iload 5, 2)) rfl ?_
      rcases rv_if_e h with ⟨g4_, h⟩ | ⟨g4_, h⟩
      · refine re_icmp_ne_f (pc := 117) 124 (by decide +kernel : decode cX13_keep 117 = .ok (.if_icmp .ne 7, 3)) (by decide) g4_ ?_
        refine re_iconst (pc := 120) (1 : Int32) (by decide +kernel : decode cX13_keep 120 = .ok (.iconst 1, 1)) (by decide) ?_
        refine re_goto (pc := 121) 125 (by decide +kernel : decode cX13_keep 121 = .ok (.goto 4, 3)) (by decide) ?_
        obtain ⟨S9_, g10_, h⟩ := rv_b_e h
        refine re_uZ (pc := 125) g10_ (by decide +kernel : decode cX13_keep 125 = .ok (.bastore, 1)) ?_
        obtain ⟨x11_, g12_, h⟩ := rv_lt_e h
        refine re_iinc (pc := 126) 8 x11_ (lv1 := [(8, .int x11_), (0, .ref a0), (1, .int x1), (2, .int x2), (3, .int x3), (4, .int x4), (5, .int x5), (6, .int x6), (7, .int x7)]) (by decide +kernel : decode cX13_keep 126 = .ok (.iinc 8 1, 3)) rfl g12_ (by decide) rfl ?_
        refine re_goto (pc := 129) 100 (by decide +kernel : decode cX13_keep 129 = .ok (.goto (-29), 3)) (by decide) ?_
        refine re_sub [1, 2, 3, 4, 5, 6, 7, 8, 0] (lv1 := [(0, .ref a0), (1, .int x1), (2, .int x2), (3, .int x3), (4, .int x4), (5, .int x5), (6, .int x6), (7, .int x7), (8, .int x11_)]) rfl ?_
        exact ih S9_ a0 x1 x2 x3 x4 x5 x6 x7 x11_ _ _ h
      · refine re_icmp_ne_t (pc := 117) 124 (by decide +kernel : decode cX13_keep 117 = .ok (.if_icmp .ne 7, 3)) (by decide) g4_ ?_
        refine re_iconst (pc := 124) (0 : Int32) (by decide +kernel : decode cX13_keep 124 = .ok (.iconst 0, 1)) (by decide) ?_
        obtain ⟨S5_, g6_, h⟩ := rv_b_e h
        refine re_uZ (pc := 125) g6_ (by decide +kernel : decode cX13_keep 125 = .ok (.bastore, 1)) ?_
        obtain ⟨x7_, g8_, h⟩ := rv_lt_e h
        refine re_iinc (pc := 126) 8 x7_ (lv1 := [(8, .int x7_), (0, .ref a0), (1, .int x1), (2, .int x2), (3, .int x3), (4, .int x4), (5, .int x5), (6, .int x6), (7, .int x7)]) (by decide +kernel : decode cX13_keep 126 = .ok (.iinc 8 1, 3)) rfl g8_ (by decide) rfl ?_
        refine re_goto (pc := 129) 100 (by decide +kernel : decode cX13_keep 129 = .ok (.goto (-29), 3)) (by decide) ?_
        refine re_sub [1, 2, 3, 4, 5, 6, 7, 8, 0] (lv1 := [(0, .ref a0), (1, .int x1), (2, .int x2), (3, .int x3), (4, .int x4), (5, .int x5), (6, .int x6), (7, .int x7), (8, .int x7_)]) rfl ?_
        exact ih S5_ a0 x1 x2 x3 x4 x5 x6 x7 x7_ _ _ h
noncomputable def fnX13_keep (n : Nat) (S : rvS) (a0 : Nat) (x1 : Int32) (x2 : Int32) (x3 : Int32) (x4 : Int32) (x5 : Int32) : Option (Int32 × rvS) :=
  (rv_pI S 11 a0 0 (0 : Int32)).bind fun S1_ =>
  (rv_ck S1_ 11 a0).bind fun u3_ =>
  (fnX13_lay n S1_ a0).bind fun S6_ =>
  (rv_ck S6_ 11 a0).bind fun u9_ =>
  (fnX13_isWho n S6_ a0 x1).bind fun x12_ =>
  if x12_ = 0 then (
    some ((-2 : Int32), S6_))
  else (
    (rv_ck S6_ 11 a0).bind fun u15_ =>
    (fnX13_isWho n S6_ a0 x2).bind fun x18_ =>
    if x18_ = 0 then (
      some ((-2 : Int32), S6_))
    else (
      (rv_ck S6_ 11 a0).bind fun u21_ =>
      (fnX13_isWho n S6_ a0 x4).bind fun x24_ =>
      if x24_ = 0 then (
        some ((-2 : Int32), S6_))
      else (
        (fnX13_isIn n S6_ x3 (1 : Int32) (99 : Int32)).bind fun x28_ =>
        if x28_ = 0 then (
          some ((-2 : Int32), S6_))
        else (
          (fnX13_isIn n S6_ x5 (1 : Int32) (99 : Int32)).bind fun x32_ =>
          if x32_ = 0 then (
            some ((-2 : Int32), S6_))
          else (
            (rv_ck S6_ 11 a0).bind fun u35_ =>
            (fnX13_layTwo n S6_ a0 x1 x2 x3 x4 x5).bind fun S38_ =>
            (rv_gR S38_ 11 a0 25).bind fun a41_ =>
            (fnX13_two n S38_ (0 : Int32) x3 x5).bind fun x44_ =>
            (rv_aI S38_ 0 a41_ x44_).bind fun x46_ =>
            if x46_ < (10000 : Int32) then (
              cX13_keep_100 n n S38_ a0 x1 x2 x3 x4 x5 x46_ x46_ (0 : Int32))
            else (
              some ((-1 : Int32), S38_)))))))
set_option maxRecDepth 20000 in
set_option maxHeartbeats 4000000 in
theorem eX13_keep_in (n : Nat) (S : rvS) (a0 : Nat) (x1 : Int32) (x2 : Int32) (x3 : Int32) (x4 : Int32) (x5 : Int32) (r : Int32) (S' : rvS) (h : fnX13_keep n S a0 x1 x2 x3 x4 x5 = some (r, S')) : rv_Ev mX13_keep 6 0 [(0, .ref a0), (1, .int x1), (2, .int x2), (3, .int x3), (4, .int x4), (5, .int x5)] [] S (some (.int r)) S' := by
  unfold fnX13_keep at h
  refine re_aloadn (pc := 0) 0 (by decide +kernel : decode cX13_keep 0 = .ok (.aload_n 0, 1)) rfl ?_
  refine re_iconst (pc := 1) (0 : Int32) (by decide +kernel : decode cX13_keep 1 = .ok (.iconst 0, 1)) (by decide) ?_
  obtain ⟨S1_, g2_, h⟩ := rv_b_e h
  refine re_pI (pc := 2) g2_ lfX13_99 rfl rfl rfl rfl (by decide +kernel : decode cX13_keep 2 = .ok (.putfield 99, 3)) ?_
  refine re_aloadn (pc := 5) 0 (by decide +kernel : decode cX13_keep 5 = .ok (.aload_n 0, 1)) rfl ?_
  obtain ⟨u3_, g4_, h⟩ := rv_b_e h
  obtain ⟨S6_, g7_, h⟩ := rv_b_e h
  have m5_ := metX13_lay n S1_ a0 _ g7_
  have z8_ : rv_same S1_ S6_ := m5_.sh rfl
  refine re_cV (pc := 6) [] m5_ (rv_okl.k z8_) (rv_up.sh z8_) (by decide) (rv_ck_e g4_) ⟨by decide, rfl⟩ (Nat.le_of_ble_eq_true rfl) lVX13_187 rfl (by decide +kernel : decode cX13_keep 6 = .ok (.invokevirtual 187, 3)) ?_
  refine re_aloadn (pc := 9) 0 (by decide +kernel : decode cX13_keep 9 = .ok (.aload_n 0, 1)) rfl ?_
  refine re_iloadn (pc := 10) 1 (by decide +kernel : decode cX13_keep 10 = .ok (.iload_n 1, 1)) rfl ?_
  obtain ⟨u9_, g10_, h⟩ := rv_b_e h
  obtain ⟨x12_, g13_, h⟩ := rv_b_e h
  have m11_ := metX13_isWho n S6_ a0 x1 _ g13_
  refine re_cV (pc := 11) [.int x1] m11_ (rv_okl.k ⟨rfl, rfl⟩) (rv_up.rf _ _) (by decide) (rv_ck_e g10_) ⟨by decide, rfl⟩ (Nat.le_of_ble_eq_true rfl) lVX13_265 rfl (by decide +kernel : decode cX13_keep 11 = .ok (.invokevirtual 265, 3)) ?_
  rcases rv_if_e h with ⟨g14_, h⟩ | ⟨g14_, h⟩
  · refine re_if_eq_t (pc := 14) 55 (by decide +kernel : decode cX13_keep 14 = .ok (.ifCond .eq 41, 3)) (by decide) g14_ ?_
    refine re_bipush (pc := 55) (-2 : Int32) (by decide +kernel : decode cX13_keep 55 = .ok (.bipush (-2), 2)) (by decide) ?_
    cases h
    exact re_iret (fun ty hty => by cases hty; rfl) (by decide +kernel : decode cX13_keep 57 = .ok (.ireturn, 1))
  · refine re_if_eq_f (pc := 14) 55 (by decide +kernel : decode cX13_keep 14 = .ok (.ifCond .eq 41, 3)) (by decide) g14_ ?_
    refine re_aloadn (pc := 17) 0 (by decide +kernel : decode cX13_keep 17 = .ok (.aload_n 0, 1)) rfl ?_
    refine re_iloadn (pc := 18) 2 (by decide +kernel : decode cX13_keep 18 = .ok (.iload_n 2, 1)) rfl ?_
    obtain ⟨u15_, g16_, h⟩ := rv_b_e h
    obtain ⟨x18_, g19_, h⟩ := rv_b_e h
    have m17_ := metX13_isWho n S6_ a0 x2 _ g19_
    refine re_cV (pc := 19) [.int x2] m17_ (rv_okl.k ⟨rfl, rfl⟩) (rv_up.rf _ _) (by decide) (rv_ck_e g16_) ⟨by decide, rfl⟩ (Nat.le_of_ble_eq_true rfl) lVX13_265 rfl (by decide +kernel : decode cX13_keep 19 = .ok (.invokevirtual 265, 3)) ?_
    rcases rv_if_e h with ⟨g20_, h⟩ | ⟨g20_, h⟩
    · refine re_if_eq_t (pc := 22) 55 (by decide +kernel : decode cX13_keep 22 = .ok (.ifCond .eq 33, 3)) (by decide) g20_ ?_
      refine re_bipush (pc := 55) (-2 : Int32) (by decide +kernel : decode cX13_keep 55 = .ok (.bipush (-2), 2)) (by decide) ?_
      cases h
      exact re_iret (fun ty hty => by cases hty; rfl) (by decide +kernel : decode cX13_keep 57 = .ok (.ireturn, 1))
    · refine re_if_eq_f (pc := 22) 55 (by decide +kernel : decode cX13_keep 22 = .ok (.ifCond .eq 33, 3)) (by decide) g20_ ?_
      refine re_aloadn (pc := 25) 0 (by decide +kernel : decode cX13_keep 25 = .ok (.aload_n 0, 1)) rfl ?_
      refine re_iload (pc := 26) 4 (by decide +kernel : decode cX13_keep 26 = .ok (.iload 4, 2)) rfl ?_
      obtain ⟨u21_, g22_, h⟩ := rv_b_e h
      obtain ⟨x24_, g25_, h⟩ := rv_b_e h
      have m23_ := metX13_isWho n S6_ a0 x4 _ g25_
      refine re_cV (pc := 28) [.int x4] m23_ (rv_okl.k ⟨rfl, rfl⟩) (rv_up.rf _ _) (by decide) (rv_ck_e g22_) ⟨by decide, rfl⟩ (Nat.le_of_ble_eq_true rfl) lVX13_265 rfl (by decide +kernel : decode cX13_keep 28 = .ok (.invokevirtual 265, 3)) ?_
      rcases rv_if_e h with ⟨g26_, h⟩ | ⟨g26_, h⟩
      · refine re_if_eq_t (pc := 31) 55 (by decide +kernel : decode cX13_keep 31 = .ok (.ifCond .eq 24, 3)) (by decide) g26_ ?_
        refine re_bipush (pc := 55) (-2 : Int32) (by decide +kernel : decode cX13_keep 55 = .ok (.bipush (-2), 2)) (by decide) ?_
        cases h
        exact re_iret (fun ty hty => by cases hty; rfl) (by decide +kernel : decode cX13_keep 57 = .ok (.ireturn, 1))
      · refine re_if_eq_f (pc := 31) 55 (by decide +kernel : decode cX13_keep 31 = .ok (.ifCond .eq 24, 3)) (by decide) g26_ ?_
        refine re_iloadn (pc := 34) 3 (by decide +kernel : decode cX13_keep 34 = .ok (.iload_n 3, 1)) rfl ?_
        refine re_iconst (pc := 35) (1 : Int32) (by decide +kernel : decode cX13_keep 35 = .ok (.iconst 1, 1)) (by decide) ?_
        refine re_bipush (pc := 36) (99 : Int32) (by decide +kernel : decode cX13_keep 36 = .ok (.bipush 99, 2)) (by decide) ?_
        obtain ⟨x28_, g29_, h⟩ := rv_b_e h
        have m27_ := metX13_isIn n S6_ x3 (1 : Int32) (99 : Int32) _ g29_
        refine re_cS (pc := 38) [.int x3, .int (1 : Int32), .int (99 : Int32)] m27_ (rv_okl.k ⟨rfl, rfl⟩) (rv_up.rf _ _) (by decide) (Nat.le_of_ble_eq_true rfl) lSX13_170 rfl (by decide +kernel : decode cX13_keep 38 = .ok (.invokestatic 170, 3)) ?_
        rcases rv_if_e h with ⟨g30_, h⟩ | ⟨g30_, h⟩
        · refine re_if_eq_t (pc := 41) 55 (by decide +kernel : decode cX13_keep 41 = .ok (.ifCond .eq 14, 3)) (by decide) g30_ ?_
          refine re_bipush (pc := 55) (-2 : Int32) (by decide +kernel : decode cX13_keep 55 = .ok (.bipush (-2), 2)) (by decide) ?_
          cases h
          exact re_iret (fun ty hty => by cases hty; rfl) (by decide +kernel : decode cX13_keep 57 = .ok (.ireturn, 1))
        · refine re_if_eq_f (pc := 41) 55 (by decide +kernel : decode cX13_keep 41 = .ok (.ifCond .eq 14, 3)) (by decide) g30_ ?_
          refine re_iload (pc := 44) 5 (by decide +kernel : decode cX13_keep 44 = .ok (.iload 5, 2)) rfl ?_
          refine re_iconst (pc := 46) (1 : Int32) (by decide +kernel : decode cX13_keep 46 = .ok (.iconst 1, 1)) (by decide) ?_
          refine re_bipush (pc := 47) (99 : Int32) (by decide +kernel : decode cX13_keep 47 = .ok (.bipush 99, 2)) (by decide) ?_
          obtain ⟨x32_, g33_, h⟩ := rv_b_e h
          have m31_ := metX13_isIn n S6_ x5 (1 : Int32) (99 : Int32) _ g33_
          refine re_cS (pc := 49) [.int x5, .int (1 : Int32), .int (99 : Int32)] m31_ (rv_okl.k ⟨rfl, rfl⟩) (rv_up.rf _ _) (by decide) (Nat.le_of_ble_eq_true rfl) lSX13_170 rfl (by decide +kernel : decode cX13_keep 49 = .ok (.invokestatic 170, 3)) ?_
          rcases rv_if_e h with ⟨g34_, h⟩ | ⟨g34_, h⟩
          · refine re_if_ne_f (pc := 52) 58 (by decide +kernel : decode cX13_keep 52 = .ok (.ifCond .ne 6, 3)) (by decide) g34_ ?_
            refine re_bipush (pc := 55) (-2 : Int32) (by decide +kernel : decode cX13_keep 55 = .ok (.bipush (-2), 2)) (by decide) ?_
            cases h
            exact re_iret (fun ty hty => by cases hty; rfl) (by decide +kernel : decode cX13_keep 57 = .ok (.ireturn, 1))
          · refine re_if_ne_t (pc := 52) 58 (by decide +kernel : decode cX13_keep 52 = .ok (.ifCond .ne 6, 3)) (by decide) g34_ ?_
            refine re_aloadn (pc := 58) 0 (by decide +kernel : decode cX13_keep 58 = .ok (.aload_n 0, 1)) rfl ?_
            refine re_iloadn (pc := 59) 1 (by decide +kernel : decode cX13_keep 59 = .ok (.iload_n 1, 1)) rfl ?_
            refine re_iloadn (pc := 60) 2 (by decide +kernel : decode cX13_keep 60 = .ok (.iload_n 2, 1)) rfl ?_
            refine re_iloadn (pc := 61) 3 (by decide +kernel : decode cX13_keep 61 = .ok (.iload_n 3, 1)) rfl ?_
            refine re_iload (pc := 62) 4 (by decide +kernel : decode cX13_keep 62 = .ok (.iload 4, 2)) rfl ?_
            refine re_iload (pc := 64) 5 (by decide +kernel : decode cX13_keep 64 = .ok (.iload 5, 2)) rfl ?_
            obtain ⟨u35_, g36_, h⟩ := rv_b_e h
            obtain ⟨S38_, g39_, h⟩ := rv_b_e h
            have m37_ := metX13_layTwo n S6_ a0 x1 x2 x3 x4 x5 _ g39_
            have z40_ : rv_same S6_ S38_ := m37_.sh rfl
            refine re_cV (pc := 66) [.int x1, .int x2, .int x3, .int x4, .int x5] m37_ (rv_okl.k z40_) (rv_up.sh z40_) (by decide) (rv_ck_e g36_) ⟨by decide, rfl⟩ (Nat.le_of_ble_eq_true rfl) lVX13_335 rfl (by decide +kernel : decode cX13_keep 66 = .ok (.invokevirtual 335, 3)) ?_
            refine re_aloadn (pc := 69) 0 (by decide +kernel : decode cX13_keep 69 = .ok (.aload_n 0, 1)) rfl ?_
            obtain ⟨a41_, g42_, h⟩ := rv_b_e h
            refine re_gR (pc := 70) g42_ lfX13_43 rfl (by decide +kernel : decode cX13_keep 70 = .ok (.getfield 43, 3)) ?_
            refine re_iconst (pc := 73) (0 : Int32) (by decide +kernel : decode cX13_keep 73 = .ok (.iconst 0, 1)) (by decide) ?_
            refine re_iloadn (pc := 74) 3 (by decide +kernel : decode cX13_keep 74 = .ok (.iload_n 3, 1)) rfl ?_
            refine re_iload (pc := 75) 5 (by decide +kernel : decode cX13_keep 75 = .ok (.iload 5, 2)) rfl ?_
            obtain ⟨x44_, g45_, h⟩ := rv_b_e h
            have m43_ := metX13_two n S38_ (0 : Int32) x3 x5 _ g45_
            refine re_cS (pc := 77) [.int (0 : Int32), .int x3, .int x5] m43_ (rv_okl.k ⟨rfl, rfl⟩) (rv_up.rf _ _) (by decide) (Nat.le_of_ble_eq_true rfl) lSX13_332 rfl (by decide +kernel : decode cX13_keep 77 = .ok (.invokestatic 332, 3)) ?_
            obtain ⟨x46_, g47_, h⟩ := rv_b_e h
            refine re_aI (pc := 80) g47_ (by decide +kernel : decode cX13_keep 80 = .ok (.iaload, 1)) ?_
            refine re_istore (pc := 81) (lv1 := [(6, .int x46_), (0, .ref a0), (1, .int x1), (2, .int x2), (3, .int x3), (4, .int x4), (5, .int x5)]) (by decide +kernel : decode cX13_keep 81 = .ok (.istore 6, 2)) (by decide) rfl ?_
            refine re_iload (pc := 83) 0 (by decide +kernel : decode cX13_keep 83 = .ok (.iload 6, 2)) rfl ?_
            refine re_sipush (pc := 85) (10000 : Int32) (by decide +kernel : decode cX13_keep 85 = .ok (.sipush 10000, 3)) (by decide) ?_
            rcases rv_if_e h with ⟨g48_, h⟩ | ⟨g48_, h⟩
            · refine re_icmp_lt_t (pc := 88) 93 (by decide +kernel : decode cX13_keep 88 = .ok (.if_icmp .lt 5, 3)) (by decide) g48_ ?_
              refine re_iload (pc := 93) 0 (by decide +kernel : decode cX13_keep 93 = .ok (.iload 6, 2)) rfl ?_
              refine re_istore (pc := 95) (lv1 := [(7, .int x46_), (6, .int x46_), (0, .ref a0), (1, .int x1), (2, .int x2), (3, .int x3), (4, .int x4), (5, .int x5)]) (by decide +kernel : decode cX13_keep 95 = .ok (.istore 7, 2)) (by decide) rfl ?_
              refine re_iconst (pc := 97) (0 : Int32) (by decide +kernel : decode cX13_keep 97 = .ok (.iconst 0, 1)) (by decide) ?_
              refine re_istore (pc := 98) (lv1 := [(8, .int (0 : Int32)), (7, .int x46_), (6, .int x46_), (0, .ref a0), (1, .int x1), (2, .int x2), (3, .int x3), (4, .int x4), (5, .int x5)]) (by decide +kernel : decode cX13_keep 98 = .ok (.istore 8, 2)) (by decide) rfl ?_
              refine re_sub [3, 4, 5, 6, 7, 8, 2, 1, 0] (lv1 := [(0, .ref a0), (1, .int x1), (2, .int x2), (3, .int x3), (4, .int x4), (5, .int x5), (6, .int x46_), (7, .int x46_), (8, .int (0 : Int32))]) rfl ?_
              exact eX13_keep_100 n n S38_ a0 x1 x2 x3 x4 x5 x46_ x46_ (0 : Int32) _ _ h
            · refine re_icmp_lt_f (pc := 88) 93 (by decide +kernel : decode cX13_keep 88 = .ok (.if_icmp .lt 5, 3)) (by decide) g48_ ?_
              refine re_iconst (pc := 91) (-1 : Int32) (by decide +kernel : decode cX13_keep 91 = .ok (.iconst (-1), 1)) (by decide) ?_
              cases h
              exact re_iret (fun ty hty => by cases hty; rfl) (by decide +kernel : decode cX13_keep 92 = .ok (.ireturn, 1))
theorem metX13_keep (n : Nat) (S : rvS) (a0 : Nat) (x1 : Int32) (x2 : Int32) (x3 : Int32) (x4 : Int32) (x5 : Int32) (r : Int32) (S' : rvS) (h : fnX13_keep n S a0 x1 x2 x3 x4 x5 = some (r, S')) : rv_Met yX13_keep mX13_keep 6 [.ref a0, .int x1, .int x2, .int x3, .int x4, .int x5] S (some (.int r)) S' := rv_Met.of ⟨by decide +kernel, rfl, (fun z => by first | rfl | cases z), rfl⟩ (Nat.le_of_ble_eq_true rfl) rfl (eX13_keep_in n S a0 x1 x2 x3 x4 x5 r S' h)
noncomputable def fnX13_lessFee (n : Nat) (S : rvS) (a0 : Nat) (x1 : Int32) : Option Int32 :=
  (rv_gR S 11 a0 14).bind fun a1_ =>
  (rv_aI S 0 a1_ (4 : Int32)).bind fun x3_ =>
  (rv_gR S 11 a0 14).bind fun a5_ =>
  (rv_aI S 0 a5_ (4 : Int32)).bind fun x7_ =>
  (rv_nz x7_).bind fun u9_ =>
  some (x1 - (((x1 + x3_) - (1 : Int32)) / x7_))
set_option maxRecDepth 20000 in
set_option maxHeartbeats 4000000 in
theorem eX13_lessFee_in (n : Nat) (S : rvS) (a0 : Nat) (x1 : Int32) (r : Int32) (h : fnX13_lessFee n S a0 x1 = some r) : rv_Ev mX13_lessFee 0 0 [(0, .ref a0), (1, .int x1)] [] S (some (.int r)) S := by
  unfold fnX13_lessFee at h
  refine re_iloadn (pc := 0) 1 (by decide +kernel : decode cX13_lessFee 0 = .ok (.iload_n 1, 1)) rfl ?_
  refine re_iloadn (pc := 1) 1 (by decide +kernel : decode cX13_lessFee 1 = .ok (.iload_n 1, 1)) rfl ?_
  refine re_aloadn (pc := 2) 0 (by decide +kernel : decode cX13_lessFee 2 = .ok (.aload_n 0, 1)) rfl ?_
  obtain ⟨a1_, g2_, h⟩ := rv_b_e h
  refine re_gR (pc := 3) g2_ lfX13_13 rfl (by decide +kernel : decode cX13_lessFee 3 = .ok (.getfield 13, 3)) ?_
  refine re_iconst (pc := 6) (4 : Int32) (by decide +kernel : decode cX13_lessFee 6 = .ok (.iconst 4, 1)) (by decide) ?_
  obtain ⟨x3_, g4_, h⟩ := rv_b_e h
  refine re_aI (pc := 7) g4_ (by decide +kernel : decode cX13_lessFee 7 = .ok (.iaload, 1)) ?_
  refine re_iadd (pc := 8) (by decide +kernel : decode cX13_lessFee 8 = .ok (.iadd, 1)) ?_
  refine re_iconst (pc := 9) (1 : Int32) (by decide +kernel : decode cX13_lessFee 9 = .ok (.iconst 1, 1)) (by decide) ?_
  refine re_isub (pc := 10) (by decide +kernel : decode cX13_lessFee 10 = .ok (.isub, 1)) ?_
  refine re_aloadn (pc := 11) 0 (by decide +kernel : decode cX13_lessFee 11 = .ok (.aload_n 0, 1)) rfl ?_
  obtain ⟨a5_, g6_, h⟩ := rv_b_e h
  refine re_gR (pc := 12) g6_ lfX13_13 rfl (by decide +kernel : decode cX13_lessFee 12 = .ok (.getfield 13, 3)) ?_
  refine re_iconst (pc := 15) (4 : Int32) (by decide +kernel : decode cX13_lessFee 15 = .ok (.iconst 4, 1)) (by decide) ?_
  obtain ⟨x7_, g8_, h⟩ := rv_b_e h
  refine re_aI (pc := 16) g8_ (by decide +kernel : decode cX13_lessFee 16 = .ok (.iaload, 1)) ?_
  obtain ⟨u9_, g10_, h⟩ := rv_b_e h
  refine re_idiv (pc := 17) (by decide +kernel : decode cX13_lessFee 17 = .ok (.idiv, 1)) (rv_nz_e g10_) ?_
  refine re_isub (pc := 18) (by decide +kernel : decode cX13_lessFee 18 = .ok (.isub, 1)) ?_
  cases h
  exact re_iret (fun ty hty => by cases hty; rfl) (by decide +kernel : decode cX13_lessFee 19 = .ok (.ireturn, 1))
theorem metX13_lessFee (n : Nat) (S : rvS) (a0 : Nat) (x1 : Int32) (r : Int32) (h : fnX13_lessFee n S a0 x1 = some r) : rv_Met yX13_lessFee mX13_lessFee 0 [.ref a0, .int x1] S (some (.int r)) S := rv_Met.of ⟨by decide +kernel, rfl, (fun z => by first | rfl | cases z), rfl⟩ (Nat.le_of_ble_eq_true rfl) rfl (eX13_lessFee_in n S a0 x1 r h)
noncomputable def fnX13_whyNoChange (n : Nat) (S : rvS) (a0 : Nat) (x1 : Int32) (x2 : Int32) : Option (Int32 × rvS) :=
  (rv_ck S 11 a0).bind fun u1_ =>
  (fnX13_ofCoin n S a0 x2 (1 : Int32)).bind fun x4_ =>
  (rv_ck S 11 a0).bind fun u6_ =>
  (fnX13_ofWho n S a0 x4_ (3 : Int32)).bind fun x9_ =>
  if x9_ = 0 then (
    some ((1 : Int32), S))
  else (
    (rv_ck S 11 a0).bind fun u12_ =>
    rv_bp (fnX13_whyNot_ n S a0 x1 x4_) fun x15_ S16_ =>
    if x15_ = 0 then (
      (rv_ck S16_ 11 a0).bind fun u20_ =>
      (fnX13_ofCoin n S16_ a0 x1 (1 : Int32)).bind fun x23_ =>
      (rv_ck S16_ 11 a0).bind fun u25_ =>
      rv_bp (fnX13_whyNot_ n S16_ a0 x2 x23_) fun x28_ S29_ =>
      if x28_ = 0 then (
        (rv_ck S29_ 11 a0).bind fun u33_ =>
        (fnX13_ofCoin n S29_ a0 x2 (0 : Int32)).bind fun x36_ =>
        (rv_ck S29_ 11 a0).bind fun u38_ =>
        (fnX13_ofCoin n S29_ a0 x1 (0 : Int32)).bind fun x41_ =>
        (rv_ck S29_ 11 a0).bind fun u43_ =>
        (fnX13_lessFee n S29_ a0 x41_).bind fun x46_ =>
        if x36_ ≤ x46_ then (
          some ((0 : Int32), S29_))
        else (
          some ((4 : Int32), S29_)))
      else (
        some ((3 : Int32), S29_)))
    else (
      some ((2 : Int32), S16_)))
set_option maxRecDepth 20000 in
set_option maxHeartbeats 4000000 in
theorem eX13_whyNoChange_in (n : Nat) (S : rvS) (a0 : Nat) (x1 : Int32) (x2 : Int32) (r : Int32) (S' : rvS) (h : fnX13_whyNoChange n S a0 x1 x2 = some (r, S')) : rv_Ev mX13_whyNoChange 4 0 [(0, .ref a0), (1, .int x1), (2, .int x2)] [] S (some (.int r)) S' := by
  unfold fnX13_whyNoChange at h
  refine re_aloadn (pc := 0) 0 (by decide +kernel : decode cX13_whyNoChange 0 = .ok (.aload_n 0, 1)) rfl ?_
  refine re_iloadn (pc := 1) 2 (by decide +kernel : decode cX13_whyNoChange 1 = .ok (.iload_n 2, 1)) rfl ?_
  refine re_iconst (pc := 2) (1 : Int32) (by decide +kernel : decode cX13_whyNoChange 2 = .ok (.iconst 1, 1)) (by decide) ?_
  obtain ⟨u1_, g2_, h⟩ := rv_b_e h
  obtain ⟨x4_, g5_, h⟩ := rv_b_e h
  have m3_ := metX13_ofCoin n S a0 x2 (1 : Int32) _ g5_
  refine re_cV (pc := 3) [.int x2, .int (1 : Int32)] m3_ (rv_okl.k ⟨rfl, rfl⟩) (rv_up.rf _ _) (by decide) (rv_ck_e g2_) ⟨by decide, rfl⟩ (Nat.le_of_ble_eq_true rfl) lVX13_271 rfl (by decide +kernel : decode cX13_whyNoChange 3 = .ok (.invokevirtual 271, 3)) ?_
  refine re_istoren (pc := 6) (lv1 := [(3, .int x4_), (0, .ref a0), (1, .int x1), (2, .int x2)]) (by decide +kernel : decode cX13_whyNoChange 6 = .ok (.istore_n 3, 1)) rfl (by decide) rfl ?_
  refine re_aloadn (pc := 7) 1 (by decide +kernel : decode cX13_whyNoChange 7 = .ok (.aload_n 0, 1)) rfl ?_
  refine re_iloadn (pc := 8) 0 (by decide +kernel : decode cX13_whyNoChange 8 = .ok (.iload_n 3, 1)) rfl ?_
  refine re_iconst (pc := 9) (3 : Int32) (by decide +kernel : decode cX13_whyNoChange 9 = .ok (.iconst 3, 1)) (by decide) ?_
  obtain ⟨u6_, g7_, h⟩ := rv_b_e h
  obtain ⟨x9_, g10_, h⟩ := rv_b_e h
  have m8_ := metX13_ofWho n S a0 x4_ (3 : Int32) _ g10_
  refine re_cV (pc := 10) [.int x4_, .int (3 : Int32)] m8_ (rv_okl.k ⟨rfl, rfl⟩) (rv_up.rf _ _) (by decide) (rv_ck_e g7_) ⟨by decide, rfl⟩ (Nat.le_of_ble_eq_true rfl) lVX13_261 rfl (by decide +kernel : decode cX13_whyNoChange 10 = .ok (.invokevirtual 261, 3)) ?_
  rcases rv_if_e h with ⟨g11_, h⟩ | ⟨g11_, h⟩
  · refine re_if_ne_f (pc := 13) 18 (by decide +kernel : decode cX13_whyNoChange 13 = .ok (.ifCond .ne 5, 3)) (by decide) g11_ ?_
    refine re_iconst (pc := 16) (1 : Int32) (by decide +kernel : decode cX13_whyNoChange 16 = .ok (.iconst 1, 1)) (by decide) ?_
    cases h
    exact re_iret (fun ty hty => by cases hty; rfl) (by decide +kernel : decode cX13_whyNoChange 17 = .ok (.ireturn, 1))
  · refine re_if_ne_t (pc := 13) 18 (by decide +kernel : decode cX13_whyNoChange 13 = .ok (.ifCond .ne 5, 3)) (by decide) g11_ ?_
    refine re_aloadn (pc := 18) 1 (by decide +kernel : decode cX13_whyNoChange 18 = .ok (.aload_n 0, 1)) rfl ?_
    refine re_iloadn (pc := 19) 2 (by decide +kernel : decode cX13_whyNoChange 19 = .ok (.iload_n 1, 1)) rfl ?_
    refine re_iloadn (pc := 20) 0 (by decide +kernel : decode cX13_whyNoChange 20 = .ok (.iload_n 3, 1)) rfl ?_
    obtain ⟨u12_, g13_, h⟩ := rv_b_e h
    obtain ⟨x15_, S16_, g17_, h⟩ := rv_bp_e h
    have m14_ := metX13_whyNot_ n S a0 x1 x4_ _ _ g17_
    have z18_ : rv_same S S16_ := m14_.sh rfl
    refine re_cV (pc := 21) [.int x1, .int x4_] m14_ (rv_okl.k z18_) (rv_up.sh z18_) (by decide) (rv_ck_e g13_) ⟨by decide, rfl⟩ (Nat.le_of_ble_eq_true rfl) lVX13_307 rfl (by decide +kernel : decode cX13_whyNoChange 21 = .ok (.invokevirtual 307, 3)) ?_
    rcases rv_if_e h with ⟨g19_, h⟩ | ⟨g19_, h⟩
    · refine re_if_eq_t (pc := 24) 29 (by decide +kernel : decode cX13_whyNoChange 24 = .ok (.ifCond .eq 5, 3)) (by decide) g19_ ?_
      refine re_aloadn (pc := 29) 1 (by decide +kernel : decode cX13_whyNoChange 29 = .ok (.aload_n 0, 1)) rfl ?_
      refine re_iloadn (pc := 30) 3 (by decide +kernel : decode cX13_whyNoChange 30 = .ok (.iload_n 2, 1)) rfl ?_
      refine re_aloadn (pc := 31) 1 (by decide +kernel : decode cX13_whyNoChange 31 = .ok (.aload_n 0, 1)) rfl ?_
      refine re_iloadn (pc := 32) 2 (by decide +kernel : decode cX13_whyNoChange 32 = .ok (.iload_n 1, 1)) rfl ?_
      refine re_iconst (pc := 33) (1 : Int32) (by decide +kernel : decode cX13_whyNoChange 33 = .ok (.iconst 1, 1)) (by decide) ?_
      obtain ⟨u20_, g21_, h⟩ := rv_b_e h
      obtain ⟨x23_, g24_, h⟩ := rv_b_e h
      have m22_ := metX13_ofCoin n S16_ a0 x1 (1 : Int32) _ g24_
      refine re_cV (pc := 34) [.int x1, .int (1 : Int32)] m22_ (rv_okl.k ⟨rfl, rfl⟩) (rv_up.rf _ _) (by decide) (rv_ck_e g21_) ⟨by decide, rfl⟩ (Nat.le_of_ble_eq_true rfl) lVX13_271 rfl (by decide +kernel : decode cX13_whyNoChange 34 = .ok (.invokevirtual 271, 3)) ?_
      obtain ⟨u25_, g26_, h⟩ := rv_b_e h
      obtain ⟨x28_, S29_, g30_, h⟩ := rv_bp_e h
      have m27_ := metX13_whyNot_ n S16_ a0 x2 x23_ _ _ g30_
      have z31_ : rv_same S16_ S29_ := m27_.sh rfl
      refine re_cV (pc := 37) [.int x2, .int x23_] m27_ (rv_okl.k z31_) (rv_up.sh z31_) (by decide) (rv_ck_e g26_) ⟨by decide, rfl⟩ (Nat.le_of_ble_eq_true rfl) lVX13_307 rfl (by decide +kernel : decode cX13_whyNoChange 37 = .ok (.invokevirtual 307, 3)) ?_
      rcases rv_if_e h with ⟨g32_, h⟩ | ⟨g32_, h⟩
      · refine re_if_eq_t (pc := 40) 45 (by decide +kernel : decode cX13_whyNoChange 40 = .ok (.ifCond .eq 5, 3)) (by decide) g32_ ?_
        refine re_aloadn (pc := 45) 1 (by decide +kernel : decode cX13_whyNoChange 45 = .ok (.aload_n 0, 1)) rfl ?_
        refine re_iloadn (pc := 46) 3 (by decide +kernel : decode cX13_whyNoChange 46 = .ok (.iload_n 2, 1)) rfl ?_
        refine re_iconst (pc := 47) (0 : Int32) (by decide +kernel : decode cX13_whyNoChange 47 = .ok (.iconst 0, 1)) (by decide) ?_
        obtain ⟨u33_, g34_, h⟩ := rv_b_e h
        obtain ⟨x36_, g37_, h⟩ := rv_b_e h
        have m35_ := metX13_ofCoin n S29_ a0 x2 (0 : Int32) _ g37_
        refine re_cV (pc := 48) [.int x2, .int (0 : Int32)] m35_ (rv_okl.k ⟨rfl, rfl⟩) (rv_up.rf _ _) (by decide) (rv_ck_e g34_) ⟨by decide, rfl⟩ (Nat.le_of_ble_eq_true rfl) lVX13_271 rfl (by decide +kernel : decode cX13_whyNoChange 48 = .ok (.invokevirtual 271, 3)) ?_
        refine re_aloadn (pc := 51) 1 (by decide +kernel : decode cX13_whyNoChange 51 = .ok (.aload_n 0, 1)) rfl ?_
        refine re_aloadn (pc := 52) 1 (by decide +kernel : decode cX13_whyNoChange 52 = .ok (.aload_n 0, 1)) rfl ?_
        refine re_iloadn (pc := 53) 2 (by decide +kernel : decode cX13_whyNoChange 53 = .ok (.iload_n 1, 1)) rfl ?_
        refine re_iconst (pc := 54) (0 : Int32) (by decide +kernel : decode cX13_whyNoChange 54 = .ok (.iconst 0, 1)) (by decide) ?_
        obtain ⟨u38_, g39_, h⟩ := rv_b_e h
        obtain ⟨x41_, g42_, h⟩ := rv_b_e h
        have m40_ := metX13_ofCoin n S29_ a0 x1 (0 : Int32) _ g42_
        refine re_cV (pc := 55) [.int x1, .int (0 : Int32)] m40_ (rv_okl.k ⟨rfl, rfl⟩) (rv_up.rf _ _) (by decide) (rv_ck_e g39_) ⟨by decide, rfl⟩ (Nat.le_of_ble_eq_true rfl) lVX13_271 rfl (by decide +kernel : decode cX13_whyNoChange 55 = .ok (.invokevirtual 271, 3)) ?_
        obtain ⟨u43_, g44_, h⟩ := rv_b_e h
        obtain ⟨x46_, g47_, h⟩ := rv_b_e h
        have m45_ := metX13_lessFee n S29_ a0 x41_ _ g47_
        refine re_cV (pc := 58) [.int x41_] m45_ (rv_okl.k ⟨rfl, rfl⟩) (rv_up.rf _ _) (by decide) (rv_ck_e g44_) ⟨by decide, rfl⟩ (Nat.le_of_ble_eq_true rfl) lVX13_347 rfl (by decide +kernel : decode cX13_whyNoChange 58 = .ok (.invokevirtual 347, 3)) ?_
        rcases rv_if_e h with ⟨g48_, h⟩ | ⟨g48_, h⟩
        · refine re_icmp_le_t (pc := 61) 68 (by decide +kernel : decode cX13_whyNoChange 61 = .ok (.if_icmp .le 7, 3)) (by decide) g48_ ?_
          refine re_iconst (pc := 68) (0 : Int32) (by decide +kernel : decode cX13_whyNoChange 68 = .ok (.iconst 0, 1)) (by decide) ?_
          cases h
          exact re_iret (fun ty hty => by cases hty; rfl) (by decide +kernel : decode cX13_whyNoChange 69 = .ok (.ireturn, 1))
        · refine re_icmp_le_f (pc := 61) 68 (by decide +kernel : decode cX13_whyNoChange 61 = .ok (.if_icmp .le 7, 3)) (by decide) g48_ ?_
          refine re_iconst (pc := 64) (4 : Int32) (by decide +kernel : decode cX13_whyNoChange 64 = .ok (.iconst 4, 1)) (by decide) ?_
          refine re_goto (pc := 65) 69 (by decide +kernel : decode cX13_whyNoChange 65 = .ok (.goto 4, 3)) (by decide) ?_
          cases h
          exact re_iret (fun ty hty => by cases hty; rfl) (by decide +kernel : decode cX13_whyNoChange 69 = .ok (.ireturn, 1))
      · refine re_if_eq_f (pc := 40) 45 (by decide +kernel : decode cX13_whyNoChange 40 = .ok (.ifCond .eq 5, 3)) (by decide) g32_ ?_
        refine re_iconst (pc := 43) (3 : Int32) (by decide +kernel : decode cX13_whyNoChange 43 = .ok (.iconst 3, 1)) (by decide) ?_
        cases h
        exact re_iret (fun ty hty => by cases hty; rfl) (by decide +kernel : decode cX13_whyNoChange 44 = .ok (.ireturn, 1))
    · refine re_if_eq_f (pc := 24) 29 (by decide +kernel : decode cX13_whyNoChange 24 = .ok (.ifCond .eq 5, 3)) (by decide) g19_ ?_
      refine re_iconst (pc := 27) (2 : Int32) (by decide +kernel : decode cX13_whyNoChange 27 = .ok (.iconst 2, 1)) (by decide) ?_
      cases h
      exact re_iret (fun ty hty => by cases hty; rfl) (by decide +kernel : decode cX13_whyNoChange 28 = .ok (.ireturn, 1))
theorem metX13_whyNoChange (n : Nat) (S : rvS) (a0 : Nat) (x1 : Int32) (x2 : Int32) (r : Int32) (S' : rvS) (h : fnX13_whyNoChange n S a0 x1 x2 = some (r, S')) : rv_Met yX13_whyNoChange mX13_whyNoChange 4 [.ref a0, .int x1, .int x2] S (some (.int r)) S' := rv_Met.of ⟨by decide +kernel, rfl, (fun z => by first | rfl | cases z), rfl⟩ (Nat.le_of_ble_eq_true rfl) rfl (eX13_whyNoChange_in n S a0 x1 x2 r S' h)
