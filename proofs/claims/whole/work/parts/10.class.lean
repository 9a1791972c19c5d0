noncomputable def cX1_init_52 (n : Nat) : Nat → rvS → Nat → Int32 → Option rvS
  | 0, _, _, _ => none
  | k + 1, S, a0, x1 =>
    (rv_vl S a0).bind fun _ =>
    if (4 : Int32) ≤ x1 then (
      some S)
    else (
      (rv_gV S 0 a0 7).bind fun a3_ =>
      (rv_uI S a3_ x1 ((1 : Int32) <<< (x1 &&& 31))).bind fun S6_ =>
      rv_lt (x1 + (1)) fun x10_ =>
      cX1_init_52 n k S6_ a0 x10_)
set_option maxRecDepth 20000 in
set_option maxHeartbeats 4000000 in
theorem eX1_init_52 (n : Nat) : ∀ (k : Nat) (S : rvS) (a0 : Nat) (x1 : Int32) (S' : rvS), cX1_init_52 n k S a0 x1 = some S' → rv_Ev mX1_init 1 52 [(0, .ref a0), (1, .int x1)] [] S none S' := by
  intro k
  induction k with
  | zero => intro S a0 x1 S' h; exact absurd h (by simp [cX1_init_52])
  | succ k ih =>
    intro S a0 x1 S' h
    unfold cX1_init_52 at h
    obtain ⟨_, g1_, h⟩ := rv_b_e h
    refine re_iloadn (pc := 52) 1 (by decide +kernel : decode cX1_init 52 = .ok (.iload_n 1, 1)) rfl ?_
    refine re_iconst (pc := 53) (4 : Int32) (by decide +kernel : decode cX1_init 53 = .ok (.iconst 4, 1)) (by decide) ?_
    rcases rv_if_e h with ⟨g2_, h⟩ | ⟨g2_, h⟩
    · refine re_icmp_ge_t (pc := 54) 72 (by decide +kernel : decode cX1_init 54 = .ok (.if_icmp .ge 18, 3)) (by decide) g2_ ?_
      cases h
      exact re_vret (by decide +kernel : decode cX1_init 72 = .ok (.return_, 1))
    · refine re_icmp_ge_f (pc := 54) 72 (by decide +kernel : decode cX1_init 54 = .ok (.if_icmp .ge 18, 3)) (by decide) g2_ ?_
      refine re_aloadn (pc := 57) 0 (by decide +kernel : decode cX1_init 57 = .ok (.aload_n 0, 1)) rfl ?_
      obtain ⟨a3_, g4_, h⟩ := rv_b_e h
      have o5_ := (rv_gV_e g4_).2
      refine re_gR (pc := 58) (rv_gV_e g4_).1 lfX1_25 rfl (by decide +kernel : decode cX1_init 58 = .ok (.getfield 25, 3)) ?_
      refine re_iloadn (pc := 61) 1 (by decide +kernel : decode cX1_init 61 = .ok (.iload_n 1, 1)) rfl ?_
      refine re_iconst (pc := 62) (1 : Int32) (by decide +kernel : decode cX1_init 62 = .ok (.iconst 1, 1)) (by decide) ?_
      refine re_iloadn (pc := 63) 1 (by decide +kernel : decode cX1_init 63 = .ok (.iload_n 1, 1)) rfl ?_
      refine re_ishl (pc := 64) (by decide +kernel : decode cX1_init 64 = .ok (.ishl, 1)) ?_
      obtain ⟨S6_, g7_, h⟩ := rv_b_e h
      have o8_ : a0 < 64 + S6_.1.length := by rw [rv_uI_sh g7_]; exact (rv_vl_e g1_)
      have o9_ : a3_ < 64 + S6_.1.length := by rw [rv_uI_sh g7_]; exact o5_
      refine re_uI (pc := 65) g7_ (by decide +kernel : decode cX1_init 65 = .ok (.iastore, 1)) ?_
      obtain ⟨x10_, g11_, h⟩ := rv_lt_e h
      refine re_iinc (pc := 66) 1 x10_ (lv1 := [(1, .int x10_), (0, .ref a0)]) (by decide +kernel : decode cX1_init 66 = .ok (.iinc 1 1, 3)) rfl g11_ (by decide) rfl ?_
      refine re_goto (pc := 69) 52 (by decide +kernel : decode cX1_init 69 = .ok (.goto (-17), 3)) (by decide) ?_
      refine re_sub [1, 0] (lv1 := [(0, .ref a0), (1, .int x10_)]) rfl ?_
      exact ih S6_ a0 x10_ _ h
noncomputable def fnX1_init (n : Nat) (S : rvS) (a0 : Nat) : Option rvS :=
  (rv_vl S a0).bind fun _ =>
  rv_lt (64 + S.1.length) fun a2_ =>
  rv_lt (rv_new S (50, 24)) fun S4_ =>
  (rv_pR S4_ 0 a0 3 a2_).bind fun S8_ =>
  rv_lt (64 + S8_.1.length) fun a12_ =>
  rv_lt (rv_new S8_ (50, 24)) fun S14_ =>
  (rv_pR S14_ 0 a0 4 a12_).bind fun S19_ =>
  rv_lt (64 + S19_.1.length) fun a24_ =>
  rv_lt (rv_new S19_ (50, 24)) fun S26_ =>
  (rv_pR S26_ 0 a0 5 a24_).bind fun S32_ =>
  rv_lt (64 + S32_.1.length) fun a38_ =>
  rv_lt (rv_new S32_ (51, 24)) fun S40_ =>
  (rv_pR S40_ 0 a0 6 a38_).bind fun S47_ =>
  rv_lt (64 + S47_.1.length) fun a54_ =>
  rv_lt (rv_new S47_ (50, 4)) fun S56_ =>
  (rv_pR S56_ 0 a0 7 a54_).bind fun S64_ =>
  rv_lt (64 + S64_.1.length) fun a72_ =>
  rv_lt (rv_new S64_ (50, 4)) fun S74_ =>
  (rv_pR S74_ 0 a0 8 a72_).bind fun S83_ =>
  cX1_init_52 n n S83_ a0 (0 : Int32)
set_option maxRecDepth 20000 in
set_option maxHeartbeats 4000000 in
theorem eX1_init_in (n : Nat) (S : rvS) (a0 : Nat) (S' : rvS) (h : fnX1_init n S a0 = some S') : rv_Ev mX1_init 1 0 [(0, .ref a0)] [] S none S' := by
  unfold fnX1_init at h
  obtain ⟨_, g1_, h⟩ := rv_b_e h
  refine re_aloadn (pc := 0) 0 (by decide +kernel : decode cX1_init 0 = .ok (.aload_n 0, 1)) rfl ?_
  refine re_obj (pc := 1) (rw1 97 (by decide +kernel) rfl) rwoi rwoc (Nat.le_of_ble_eq_true rfl) (by decide) (by decide +kernel : decode cX1_init 1 = .ok (.invokespecial 3, 3)) ?_
  refine re_aloadn (pc := 4) 0 (by decide +kernel : decode cX1_init 4 = .ok (.aload_n 0, 1)) rfl ?_
  refine re_bipush (pc := 5) (24 : Int32) (by decide +kernel : decode cX1_init 5 = .ok (.bipush 24, 2)) (by decide) ?_
  refine re_newa (pc := 7) (t := 0) (N := 24) rfl (rv_alv (List.forall_mem_cons.mpr ⟨(rv_vl_e g1_), (fun _ z => absurd z List.not_mem_nil)⟩)) ((List.forall_mem_cons.mpr ⟨(rv_vl_e g1_), (fun _ z => absurd z List.not_mem_nil)⟩)) (by decide) rfl (rw1 137 (by decide +kernel) rfl) (by decide) (by decide) (by decide) (by decide +kernel : decode cX1_init 7 = .ok (.newarray .int, 2)) ?_
  obtain ⟨a2_, g3_, h⟩ := rv_lt_e h
  refine re_nR g3_ ?_
  obtain ⟨S4_, g5_, h⟩ := rv_lt_e h
  refine re_nS g5_ ?_
  have o6_ : a0 < 64 + S4_.1.length := rv_okn g5_ (rv_vl_e g1_)
  have o7_ : a2_ < 64 + S4_.1.length := by rw [← g3_]; exact rv_okn0 g5_
  obtain ⟨S8_, g9_, h⟩ := rv_b_e h
  have o10_ : a0 < 64 + S8_.1.length := by rw [rv_pR_sh g9_]; exact o6_
  have o11_ : a2_ < 64 + S8_.1.length := by rw [rv_pR_sh g9_]; exact o7_
  refine re_pR (pc := 9) g9_ lfX1_11 rfl (Or.inr ⟨rfl, rfl, rfl, (rw1 108 (by decide +kernel) rfl)⟩) (by decide +kernel : decode cX1_init 9 = .ok (.putfield 11, 3)) ?_
  refine re_aloadn (pc := 12) 0 (by decide +kernel : decode cX1_init 12 = .ok (.aload_n 0, 1)) rfl ?_
  refine re_bipush (pc := 13) (24 : Int32) (by decide +kernel : decode cX1_init 13 = .ok (.bipush 24, 2)) (by decide) ?_
  refine re_newa (pc := 15) (t := 0) (N := 24) rfl (rv_alv (List.forall_mem_cons.mpr ⟨o10_, (fun _ z => absurd z List.not_mem_nil)⟩)) ((List.forall_mem_cons.mpr ⟨o10_, (fun _ z => absurd z List.not_mem_nil)⟩)) (by decide) rfl (rw1 137 (by decide +kernel) rfl) (by decide) (by decide) (by decide) (by decide +kernel : decode cX1_init 15 = .ok (.newarray .int, 2)) ?_
  obtain ⟨a12_, g13_, h⟩ := rv_lt_e h
  refine re_nR g13_ ?_
  obtain ⟨S14_, g15_, h⟩ := rv_lt_e h
  refine re_nS g15_ ?_
  have o16_ : a0 < 64 + S14_.1.length := rv_okn g15_ o10_
  have o17_ : a2_ < 64 + S14_.1.length := rv_okn g15_ o11_
  have o18_ : a12_ < 64 + S14_.1.length := by rw [← g13_]; exact rv_okn0 g15_
  obtain ⟨S19_, g20_, h⟩ := rv_b_e h
  have o21_ : a0 < 64 + S19_.1.length := by rw [rv_pR_sh g20_]; exact o16_
  have o22_ : a2_ < 64 + S19_.1.length := by rw [rv_pR_sh g20_]; exact o17_
  have o23_ : a12_ < 64 + S19_.1.length := by rw [rv_pR_sh g20_]; exact o18_
  refine re_pR (pc := 17) g20_ lfX1_15 rfl (Or.inr ⟨rfl, rfl, rfl, (rw1 111 (by decide +kernel) rfl)⟩) (by decide +kernel : decode cX1_init 17 = .ok (.putfield 15, 3)) ?_
  refine re_aloadn (pc := 20) 0 (by decide +kernel : decode cX1_init 20 = .ok (.aload_n 0, 1)) rfl ?_
  refine re_bipush (pc := 21) (24 : Int32) (by decide +kernel : decode cX1_init 21 = .ok (.bipush 24, 2)) (by decide) ?_
  refine re_newa (pc := 23) (t := 0) (N := 24) rfl (rv_alv (List.forall_mem_cons.mpr ⟨o21_, (fun _ z => absurd z List.not_mem_nil)⟩)) ((List.forall_mem_cons.mpr ⟨o21_, (fun _ z => absurd z List.not_mem_nil)⟩)) (by decide) rfl (rw1 137 (by decide +kernel) rfl) (by decide) (by decide) (by decide) (by decide +kernel : decode cX1_init 23 = .ok (.newarray .int, 2)) ?_
  obtain ⟨a24_, g25_, h⟩ := rv_lt_e h
  refine re_nR g25_ ?_
  obtain ⟨S26_, g27_, h⟩ := rv_lt_e h
  refine re_nS g27_ ?_
  have o28_ : a0 < 64 + S26_.1.length := rv_okn g27_ o21_
  have o29_ : a2_ < 64 + S26_.1.length := rv_okn g27_ o22_
  have o30_ : a12_ < 64 + S26_.1.length := rv_okn g27_ o23_
  have o31_ : a24_ < 64 + S26_.1.length := by rw [← g25_]; exact rv_okn0 g27_
  obtain ⟨S32_, g33_, h⟩ := rv_b_e h
  have o34_ : a0 < 64 + S32_.1.length := by rw [rv_pR_sh g33_]; exact o28_
  have o35_ : a2_ < 64 + S32_.1.length := by rw [rv_pR_sh g33_]; exact o29_
  have o36_ : a12_ < 64 + S32_.1.length := by rw [rv_pR_sh g33_]; exact o30_
  have o37_ : a24_ < 64 + S32_.1.length := by rw [rv_pR_sh g33_]; exact o31_
  refine re_pR (pc := 25) g33_ lfX1_18 rfl (Or.inr ⟨rfl, rfl, rfl, (rw1 113 (by decide +kernel) rfl)⟩) (by decide +kernel : decode cX1_init 25 = .ok (.putfield 18, 3)) ?_
  refine re_aloadn (pc := 28) 0 (by decide +kernel : decode cX1_init 28 = .ok (.aload_n 0, 1)) rfl ?_
  refine re_bipush (pc := 29) (24 : Int32) (by decide +kernel : decode cX1_init 29 = .ok (.bipush 24, 2)) (by decide) ?_
  refine re_newa (pc := 31) (t := 1) (N := 24) rfl (rv_alv (List.forall_mem_cons.mpr ⟨o34_, (fun _ z => absurd z List.not_mem_nil)⟩)) ((List.forall_mem_cons.mpr ⟨o34_, (fun _ z => absurd z List.not_mem_nil)⟩)) (by decide) rfl (rw1 138 (by decide +kernel) rfl) (by decide) (by decide) (by decide) (by decide +kernel : decode cX1_init 31 = .ok (.newarray .long, 2)) ?_
  obtain ⟨a38_, g39_, h⟩ := rv_lt_e h
  refine re_nR g39_ ?_
  obtain ⟨S40_, g41_, h⟩ := rv_lt_e h
  refine re_nS g41_ ?_
  have o42_ : a0 < 64 + S40_.1.length := rv_okn g41_ o34_
  have o43_ : a2_ < 64 + S40_.1.length := rv_okn g41_ o35_
  have o44_ : a12_ < 64 + S40_.1.length := rv_okn g41_ o36_
  have o45_ : a24_ < 64 + S40_.1.length := rv_okn g41_ o37_
  have o46_ : a38_ < 64 + S40_.1.length := by rw [← g39_]; exact rv_okn0 g41_
  obtain ⟨S47_, g48_, h⟩ := rv_b_e h
  have o49_ : a0 < 64 + S47_.1.length := by rw [rv_pR_sh g48_]; exact o42_
  have o50_ : a2_ < 64 + S47_.1.length := by rw [rv_pR_sh g48_]; exact o43_
  have o51_ : a12_ < 64 + S47_.1.length := by rw [rv_pR_sh g48_]; exact o44_
  have o52_ : a24_ < 64 + S47_.1.length := by rw [rv_pR_sh g48_]; exact o45_
  have o53_ : a38_ < 64 + S47_.1.length := by rw [rv_pR_sh g48_]; exact o46_
  refine re_pR (pc := 33) g48_ lfX1_21 rfl (Or.inr ⟨rfl, rfl, rfl, (rw1 115 (by decide +kernel) rfl)⟩) (by decide +kernel : decode cX1_init 33 = .ok (.putfield 21, 3)) ?_
  refine re_aloadn (pc := 36) 0 (by decide +kernel : decode cX1_init 36 = .ok (.aload_n 0, 1)) rfl ?_
  refine re_iconst (pc := 37) (4 : Int32) (by decide +kernel : decode cX1_init 37 = .ok (.iconst 4, 1)) (by decide) ?_
  refine re_newa (pc := 38) (t := 0) (N := 4) rfl (rv_alv (List.forall_mem_cons.mpr ⟨o49_, (fun _ z => absurd z List.not_mem_nil)⟩)) ((List.forall_mem_cons.mpr ⟨o49_, (fun _ z => absurd z List.not_mem_nil)⟩)) (by decide) rfl (rw1 137 (by decide +kernel) rfl) (by decide) (by decide) (by decide) (by decide +kernel : decode cX1_init 38 = .ok (.newarray .int, 2)) ?_
  obtain ⟨a54_, g55_, h⟩ := rv_lt_e h
  refine re_nR g55_ ?_
  obtain ⟨S56_, g57_, h⟩ := rv_lt_e h
  refine re_nS g57_ ?_
  have o58_ : a0 < 64 + S56_.1.length := rv_okn g57_ o49_
  have o59_ : a2_ < 64 + S56_.1.length := rv_okn g57_ o50_
  have o60_ : a12_ < 64 + S56_.1.length := rv_okn g57_ o51_
  have o61_ : a24_ < 64 + S56_.1.length := rv_okn g57_ o52_
  have o62_ : a38_ < 64 + S56_.1.length := rv_okn g57_ o53_
  have o63_ : a54_ < 64 + S56_.1.length := by rw [← g55_]; exact rv_okn0 g57_
  obtain ⟨S64_, g65_, h⟩ := rv_b_e h
  have o66_ : a0 < 64 + S64_.1.length := by rw [rv_pR_sh g65_]; exact o58_
  have o67_ : a2_ < 64 + S64_.1.length := by rw [rv_pR_sh g65_]; exact o59_
  have o68_ : a12_ < 64 + S64_.1.length := by rw [rv_pR_sh g65_]; exact o60_
  have o69_ : a24_ < 64 + S64_.1.length := by rw [rv_pR_sh g65_]; exact o61_
  have o70_ : a38_ < 64 + S64_.1.length := by rw [rv_pR_sh g65_]; exact o62_
  have o71_ : a54_ < 64 + S64_.1.length := by rw [rv_pR_sh g65_]; exact o63_
  refine re_pR (pc := 40) g65_ lfX1_25 rfl (Or.inr ⟨rfl, rfl, rfl, (rw1 116 (by decide +kernel) rfl)⟩) (by decide +kernel : decode cX1_init 40 = .ok (.putfield 25, 3)) ?_
  refine re_aloadn (pc := 43) 0 (by decide +kernel : decode cX1_init 43 = .ok (.aload_n 0, 1)) rfl ?_
  refine re_iconst (pc := 44) (4 : Int32) (by decide +kernel : decode cX1_init 44 = .ok (.iconst 4, 1)) (by decide) ?_
  refine re_newa (pc := 45) (t := 0) (N := 4) rfl (rv_alv (List.forall_mem_cons.mpr ⟨o66_, (fun _ z => absurd z List.not_mem_nil)⟩)) ((List.forall_mem_cons.mpr ⟨o66_, (fun _ z => absurd z List.not_mem_nil)⟩)) (by decide) rfl (rw1 137 (by decide +kernel) rfl) (by decide) (by decide) (by decide) (by decide +kernel : decode cX1_init 45 = .ok (.newarray .int, 2)) ?_
  obtain ⟨a72_, g73_, h⟩ := rv_lt_e h
  refine re_nR g73_ ?_
  obtain ⟨S74_, g75_, h⟩ := rv_lt_e h
  refine re_nS g75_ ?_
  have o76_ : a0 < 64 + S74_.1.length := rv_okn g75_ o66_
  have o77_ : a2_ < 64 + S74_.1.length := rv_okn g75_ o67_
  have o78_ : a12_ < 64 + S74_.1.length := rv_okn g75_ o68_
  have o79_ : a24_ < 64 + S74_.1.length := rv_okn g75_ o69_
  have o80_ : a38_ < 64 + S74_.1.length := rv_okn g75_ o70_
  have o81_ : a54_ < 64 + S74_.1.length := rv_okn g75_ o71_
  have o82_ : a72_ < 64 + S74_.1.length := by rw [← g73_]; exact rv_okn0 g75_
  obtain ⟨S83_, g84_, h⟩ := rv_b_e h
  have o85_ : a0 < 64 + S83_.1.length := by rw [rv_pR_sh g84_]; exact o76_
  have o86_ : a2_ < 64 + S83_.1.length := by rw [rv_pR_sh g84_]; exact o77_
  have o87_ : a12_ < 64 + S83_.1.length := by rw [rv_pR_sh g84_]; exact o78_
  have o88_ : a24_ < 64 + S83_.1.length := by rw [rv_pR_sh g84_]; exact o79_
  have o89_ : a38_ < 64 + S83_.1.length := by rw [rv_pR_sh g84_]; exact o80_
  have o90_ : a54_ < 64 + S83_.1.length := by rw [rv_pR_sh g84_]; exact o81_
  have o91_ : a72_ < 64 + S83_.1.length := by rw [rv_pR_sh g84_]; exact o82_
  refine re_pR (pc := 47) g84_ lfX1_28 rfl (Or.inr ⟨rfl, rfl, rfl, (rw1 117 (by decide +kernel) rfl)⟩) (by decide +kernel : decode cX1_init 47 = .ok (.putfield 28, 3)) ?_
  refine re_iconst (pc := 50) (0 : Int32) (by decide +kernel : decode cX1_init 50 = .ok (.iconst 0, 1)) (by decide) ?_
  refine re_istoren (pc := 51) (lv1 := [(1, .int (0 : Int32)), (0, .ref a0)]) (by decide +kernel : decode cX1_init 51 = .ok (.istore_n 1, 1)) rfl (by decide) rfl ?_
  refine re_sub [1, 0] (lv1 := [(0, .ref a0), (1, .int (0 : Int32))]) rfl ?_
  exact eX1_init_52 n n S83_ a0 (0 : Int32) _ h
theorem metX1_init (n : Nat) (S : rvS) (a0 : Nat) (S' : rvS) (h : fnX1_init n S a0 = some S') : rv_Met yX1_init mX1_init 1 [.ref a0] S none S' := rv_Met.of ⟨by decide +kernel, rfl, (fun z => by first | rfl | cases z), rfl⟩ (Nat.le_of_ble_eq_true rfl) rfl (eX1_init_in n S a0 S' h)
noncomputable def fnX1_isVillage (n : Nat) (S : rvS) (x0 : Int32) : Option Int32 :=
  if x0 < 0 then (
    some (0 : Int32))
  else (
    if (4 : Int32) ≤ x0 then (
      some (0 : Int32))
    else (
      some (1 : Int32)))
set_option maxRecDepth 20000 in
set_option maxHeartbeats 4000000 in
theorem eX1_isVillage_in (n : Nat) (S : rvS) (x0 : Int32) (r : Int32) (h : fnX1_isVillage n S x0 = some r) : rv_Ev mX1_isVillage 0 0 [(0, .int x0)] [] S (some (.int r)) S := by
  unfold fnX1_isVillage at h
  refine re_iloadn (pc := 0) 0 (by decide +kernel : decode cX1_isVillage 0 = .ok (.iload_n 0, 1)) rfl ?_
  rcases rv_if_e h with ⟨g1_, h⟩ | ⟨g1_, h⟩
  · refine re_if_lt_t (pc := 1) 13 (by decide +kernel : decode cX1_isVillage 1 = .ok (.ifCond .lt 12, 3)) (by decide) g1_ ?_
    refine re_iconst (pc := 13) (0 : Int32) (by decide +kernel : decode cX1_isVillage 13 = .ok (.iconst 0, 1)) (by decide) ?_
    cases h
    exact re_iret (fun ty hty => by cases hty; rfl) (by decide +kernel : decode cX1_isVillage 14 = .ok (.ireturn, 1))
  · refine re_if_lt_f (pc := 1) 13 (by decide +kernel : decode cX1_isVillage 1 = .ok (.ifCond .lt 12, 3)) (by decide) g1_ ?_
    refine re_iloadn (pc := 4) 0 (by decide +kernel : decode cX1_isVillage 4 = .ok (.iload_n 0, 1)) rfl ?_
    refine re_iconst (pc := 5) (4 : Int32) (by decide +kernel : decode cX1_isVillage 5 = .ok (.iconst 4, 1)) (by decide) ?_
    rcases rv_if_e h with ⟨g2_, h⟩ | ⟨g2_, h⟩
    · refine re_icmp_ge_t (pc := 6) 13 (by decide +kernel : decode cX1_isVillage 6 = .ok (.if_icmp .ge 7, 3)) (by decide) g2_ ?_
      refine re_iconst (pc := 13) (0 : Int32) (by decide +kernel : decode cX1_isVillage 13 = .ok (.iconst 0, 1)) (by decide) ?_
      cases h
      exact re_iret (fun ty hty => by cases hty; rfl) (by decide +kernel : decode cX1_isVillage 14 = .ok (.ireturn, 1))
    · refine re_icmp_ge_f (pc := 6) 13 (by decide +kernel : decode cX1_isVillage 6 = .ok (.if_icmp .ge 7, 3)) (by decide) g2_ ?_
      refine re_iconst (pc := 9) (1 : Int32) (by decide +kernel : decode cX1_isVillage 9 = .ok (.iconst 1, 1)) (by decide) ?_
      refine re_goto (pc := 10) 14 (by decide +kernel : decode cX1_isVillage 10 = .ok (.goto 4, 3)) (by decide) ?_
      cases h
      exact re_iret (fun ty hty => by cases hty; rfl) (by decide +kernel : decode cX1_isVillage 14 = .ok (.ireturn, 1))
theorem metX1_isVillage (n : Nat) (S : rvS) (x0 : Int32) (r : Int32) (h : fnX1_isVillage n S x0 = some r) : rv_Met yX1_isVillage mX1_isVillage 0 [.int x0] S (some (.int r)) S := rv_Met.of ⟨by decide +kernel, rfl, (fun z => by first | rfl | cases z), rfl⟩ (Nat.le_of_ble_eq_true rfl) rfl (eX1_isVillage_in n S x0 r h)
noncomputable def fnX1_areNear (n : Nat) (S : rvS) (a0 : Nat) (x1 : Int32) (x2 : Int32) : Option Int32 :=
  (fnX1_isVillage n S x1).bind fun x2_ =>
  if x2_ = 0 then (
    some (0 : Int32))
  else (
    (fnX1_isVillage n S x2).bind fun x6_ =>
    if x6_ = 0 then (
      some (0 : Int32))
    else (
      (rv_gR S 0 a0 7).bind fun a9_ =>
      (rv_aI S 0 a9_ x1).bind fun x11_ =>
      if (((x11_.toUInt32 >>> (x2.toUInt32 &&& Int32.toUInt32 31)).toInt32) &&& (1 : Int32)) = 0 then (
        some (0 : Int32))
      else (
        some (1 : Int32))))
set_option maxRecDepth 20000 in
set_option maxHeartbeats 4000000 in
theorem eX1_areNear_in (n : Nat) (S : rvS) (a0 : Nat) (x1 : Int32) (x2 : Int32) (r : Int32) (h : fnX1_areNear n S a0 x1 x2 = some r) : rv_Ev mX1_areNear 1 0 [(0, .ref a0), (1, .int x1), (2, .int x2)] [] S (some (.int r)) S := by
  unfold fnX1_areNear at h
  refine re_iloadn (pc := 0) 1 (by decide +kernel : decode cX1_areNear 0 = .ok (.iload_n 1, 1)) rfl ?_
  obtain ⟨x2_, g3_, h⟩ := rv_b_e h
  have m1_ := metX1_isVillage n S x1 _ g3_
  refine re_cS (pc := 1) [.int x1] m1_ (rv_okl.k ⟨rfl, rfl⟩) (rv_up.rf _ _) (by decide) (Nat.le_of_ble_eq_true rfl) lSX1_55 rfl (by decide +kernel : decode cX1_areNear 1 = .ok (.invokestatic 55, 3)) ?_
  rcases rv_if_e h with ⟨g4_, h⟩ | ⟨g4_, h⟩
  · refine re_if_eq_t (pc := 4) 31 (by decide +kernel : decode cX1_areNear 4 = .ok (.ifCond .eq 27, 3)) (by decide) g4_ ?_
    refine re_iconst (pc := 31) (0 : Int32) (by decide +kernel : decode cX1_areNear 31 = .ok (.iconst 0, 1)) (by decide) ?_
    cases h
    exact re_iret (fun ty hty => by cases hty; rfl) (by decide +kernel : decode cX1_areNear 32 = .ok (.ireturn, 1))
  · refine re_if_eq_f (pc := 4) 31 (by decide +kernel : decode cX1_areNear 4 = .ok (.ifCond .eq 27, 3)) (by decide) g4_ ?_
    refine re_iloadn (pc := 7) 2 (by decide +kernel : decode cX1_areNear 7 = .ok (.iload_n 2, 1)) rfl ?_
    obtain ⟨x6_, g7_, h⟩ := rv_b_e h
    have m5_ := metX1_isVillage n S x2 _ g7_
    refine re_cS (pc := 8) [.int x2] m5_ (rv_okl.k ⟨rfl, rfl⟩) (rv_up.rf _ _) (by decide) (Nat.le_of_ble_eq_true rfl) lSX1_55 rfl (by decide +kernel : decode cX1_areNear 8 = .ok (.invokestatic 55, 3)) ?_
    rcases rv_if_e h with ⟨g8_, h⟩ | ⟨g8_, h⟩
    · refine re_if_eq_t (pc := 11) 31 (by decide +kernel : decode cX1_areNear 11 = .ok (.ifCond .eq 20, 3)) (by decide) g8_ ?_
      refine re_iconst (pc := 31) (0 : Int32) (by decide +kernel : decode cX1_areNear 31 = .ok (.iconst 0, 1)) (by decide) ?_
      cases h
      exact re_iret (fun ty hty => by cases hty; rfl) (by decide +kernel : decode cX1_areNear 32 = .ok (.ireturn, 1))
    · refine re_if_eq_f (pc := 11) 31 (by decide +kernel : decode cX1_areNear 11 = .ok (.ifCond .eq 20, 3)) (by decide) g8_ ?_
      refine re_aloadn (pc := 14) 0 (by decide +kernel : decode cX1_areNear 14 = .ok (.aload_n 0, 1)) rfl ?_
      obtain ⟨a9_, g10_, h⟩ := rv_b_e h
      refine re_gR (pc := 15) g10_ lfX1_25 rfl (by decide +kernel : decode cX1_areNear 15 = .ok (.getfield 25, 3)) ?_
      refine re_iloadn (pc := 18) 1 (by decide +kernel : decode cX1_areNear 18 = .ok (.iload_n 1, 1)) rfl ?_
      obtain ⟨x11_, g12_, h⟩ := rv_b_e h
      refine re_aI (pc := 19) g12_ (by decide +kernel : decode cX1_areNear 19 = .ok (.iaload, 1)) ?_
      refine re_iloadn (pc := 20) 2 (by decide +kernel : decode cX1_areNear 20 = .ok (.iload_n 2, 1)) rfl ?_
      refine re_iushr (pc := 21) (by decide +kernel : decode cX1_areNear 21 = .ok (.iushr, 1)) ?_
      refine re_iconst (pc := 22) (1 : Int32) (by decide +kernel : decode cX1_areNear 22 = .ok (.iconst 1, 1)) (by decide) ?_
      refine re_iand (pc := 23) (by decide +kernel : decode cX1_areNear 23 = .ok (.iand, 1)) ?_
      rcases rv_if_e h with ⟨g13_, h⟩ | ⟨g13_, h⟩
      · refine re_if_eq_t (pc := 24) 31 (by decide +kernel : decode cX1_areNear 24 = .ok (.ifCond .eq 7, 3)) (by decide) g13_ ?_
        refine re_iconst (pc := 31) (0 : Int32) (by decide +kernel : decode cX1_areNear 31 = .ok (.iconst 0, 1)) (by decide) ?_
        cases h
        exact re_iret (fun ty hty => by cases hty; rfl) (by decide +kernel : decode cX1_areNear 32 = .ok (.ireturn, 1))
      · refine re_if_eq_f (pc := 24) 31 (by decide +kernel : decode cX1_areNear 24 = .ok (.ifCond .eq 7, 3)) (by decide) g13_ ?_
        refine re_iconst (pc := 27) (1 : Int32) (by decide +kernel : decode cX1_areNear 27 = .ok (.iconst 1, 1)) (by decide) ?_
        refine re_goto (pc := 28) 32 (by decide +kernel : decode cX1_areNear 28 = .ok (.goto 4, 3)) (by decide) ?_
        cases h
        exact re_iret (fun ty hty => by cases hty; rfl) (by decide +kernel : decode cX1_areNear 32 = .ok (.ireturn, 1))
theorem metX1_areNear (n : Nat) (S : rvS) (a0 : Nat) (x1 : Int32) (x2 : Int32) (r : Int32) (h : fnX1_areNear n S a0 x1 x2 = some r) : rv_Met yX1_areNear mX1_areNear 1 [.ref a0, .int x1, .int x2] S (some (.int r)) S := rv_Met.of ⟨by decide +kernel, rfl, (fun z => by first | rfl | cases z), rfl⟩ (Nat.le_of_ble_eq_true rfl) rfl (eX1_areNear_in n S a0 x1 x2 r h)
noncomputable def fnX1_isDead (n : Nat) (S : rvS) (a0 : Nat) (x1 : Int32) : Option Int32 :=
  (rv_gI S 0 a0 1).bind fun x1_ =>
  if (((x1_.toUInt32 >>> (x1.toUInt32 &&& Int32.toUInt32 31)).toInt32) &&& (1 : Int32)) = 0 then (
    some (0 : Int32))
  else (
    some (1 : Int32))
set_option maxRecDepth 20000 in
set_option maxHeartbeats 4000000 in
theorem eX1_isDead_in (n : Nat) (S : rvS) (a0 : Nat) (x1 : Int32) (r : Int32) (h : fnX1_isDead n S a0 x1 = some r) : rv_Ev mX1_isDead 0 0 [(0, .ref a0), (1, .int x1)] [] S (some (.int r)) S := by
  unfold fnX1_isDead at h
  refine re_aloadn (pc := 0) 0 (by decide +kernel : decode cX1_isDead 0 = .ok (.aload_n 0, 1)) rfl ?_
  obtain ⟨x1_, g2_, h⟩ := rv_b_e h
  refine re_gI (pc := 1) g2_ lfX1_35 rfl (by decide +kernel : decode cX1_isDead 1 = .ok (.getfield 35, 3)) ?_
  refine re_iloadn (pc := 4) 1 (by decide +kernel : decode cX1_isDead 4 = .ok (.iload_n 1, 1)) rfl ?_
  refine re_iushr (pc := 5) (by decide +kernel : decode cX1_isDead 5 = .ok (.iushr, 1)) ?_
  refine re_iconst (pc := 6) (1 : Int32) (by decide +kernel : decode cX1_isDead 6 = .ok (.iconst 1, 1)) (by decide) ?_
  refine re_iand (pc := 7) (by decide +kernel : decode cX1_isDead 7 = .ok (.iand, 1)) ?_
  rcases rv_if_e h with ⟨g3_, h⟩ | ⟨g3_, h⟩
  · refine re_if_eq_t (pc := 8) 15 (by decide +kernel : decode cX1_isDead 8 = .ok (.ifCond .eq 7, 3)) (by decide) g3_ ?_
    refine re_iconst (pc := 15) (0 : Int32) (by decide +kernel : decode cX1_isDead 15 = .ok (.iconst 0, 1)) (by decide) ?_
    cases h
    exact re_iret (fun ty hty => by cases hty; rfl) (by decide +kernel : decode cX1_isDead 16 = .ok (.ireturn, 1))
  · refine re_if_eq_f (pc := 8) 15 (by decide +kernel : decode cX1_isDead 8 = .ok (.ifCond .eq 7, 3)) (by decide) g3_ ?_
    refine re_iconst (pc := 11) (1 : Int32) (by decide +kernel : decode cX1_isDead 11 = .ok (.iconst 1, 1)) (by decide) ?_
    refine re_goto (pc := 12) 16 (by decide +kernel : decode cX1_isDead 12 = .ok (.goto 4, 3)) (by decide) ?_
    cases h
    exact re_iret (fun ty hty => by cases hty; rfl) (by decide +kernel : decode cX1_isDead 16 = .ok (.ireturn, 1))
theorem metX1_isDead (n : Nat) (S : rvS) (a0 : Nat) (x1 : Int32) (r : Int32) (h : fnX1_isDead n S a0 x1 = some r) : rv_Met yX1_isDead mX1_isDead 0 [.ref a0, .int x1] S (some (.int r)) S := rv_Met.of ⟨by decide +kernel, rfl, (fun z => by first | rfl | cases z), rfl⟩ (Nat.le_of_ble_eq_true rfl) rfl (eX1_isDead_in n S a0 x1 r h)
noncomputable def cX1_refresh_53 (n : Nat) (K2 : Nat → Int32 → rvS → Option rvS) (S : rvS) (a0 : Nat) (x1 : Int32) (x2 : Int32) : Option rvS :=
  (rv_gR S 0 a0 8).bind fun a1_ =>
  (rv_uI S a1_ x1 x2).bind fun S3_ =>
  rv_lt (x1 + (1)) fun x5_ =>
  K2 a0 x5_ S3_
set_option maxRecDepth 20000 in
set_option maxHeartbeats 4000000 in
theorem eX1_refresh_53 (n : Nat) (K2 : Nat → Int32 → rvS → Option rvS) (hK2 : ∀ (a0 : Nat) (x1 : Int32) (S : rvS) (S' : rvS), K2 a0 x1 S = some S' → rv_Ev mX1_refresh 2 2 [(0, .ref a0), (1, .int x1)] [] S none S') (S : rvS) (a0 : Nat) (x1 : Int32) (x2 : Int32) (S' : rvS) (h : cX1_refresh_53 n K2 S a0 x1 x2 = some S') : rv_Ev mX1_refresh 2 53 [(0, .ref a0), (1, .int x1), (2, .int x2)] [] S none S' := by
  unfold cX1_refresh_53 at h
  refine re_aloadn (pc := 53) 0 (by decide +kernel : decode cX1_refresh 53 = .ok (.aload_n 0, 1)) rfl ?_
  obtain ⟨a1_, g2_, h⟩ := rv_b_e h
  refine re_gR (pc := 54) g2_ lfX1_28 rfl (by decide +kernel : decode cX1_refresh 54 = .ok (.getfield 28, 3)) ?_
  refine re_iloadn (pc := 57) 1 (by decide +kernel : decode cX1_refresh 57 = .ok (.iload_n 1, 1)) rfl ?_
  refine re_iloadn (pc := 58) 2 (by decide +kernel : decode cX1_refresh 58 = .ok (.iload_n 2, 1)) rfl ?_
  obtain ⟨S3_, g4_, h⟩ := rv_b_e h
  refine re_uI (pc := 59) g4_ (by decide +kernel : decode cX1_refresh 59 = .ok (.iastore, 1)) ?_
  obtain ⟨x5_, g6_, h⟩ := rv_lt_e h
  refine re_iinc (pc := 60) 1 x5_ (lv1 := [(1, .int x5_), (0, .ref a0), (2, .int x2)]) (by decide +kernel : decode cX1_refresh 60 = .ok (.iinc 1 1, 3)) rfl g6_ (by decide) rfl ?_
  refine re_goto (pc := 63) 2 (by decide +kernel : decode cX1_refresh 63 = .ok (.goto (-61), 3)) (by decide) ?_
  refine re_sub [1, 0] (lv1 := [(0, .ref a0), (1, .int x5_)]) rfl ?_
  exact hK2 a0 x5_ S3_ _ h
noncomputable def cX1_refresh_11 (n : Nat) (K2 : Nat → Int32 → rvS → Option rvS) : Nat → rvS → Nat → Int32 → Int32 → Int32 → Option rvS
  | 0, _, _, _, _, _ => none
  | k + 1, S, a0, x1, x2, x3 =>
    (rv_gI S 0 a0 0).bind fun x1_ =>
    if x1_ ≤ x3 then (
      cX1_refresh_53 n K2 S a0 x1 x2)
    else (
      (rv_gR S 0 a0 3).bind fun a4_ =>
      (rv_aI S 0 a4_ x3).bind fun x6_ =>
      (rv_ck S 0 a0).bind fun u8_ =>
      (fnX1_areNear n S a0 x1 x6_).bind fun x11_ =>
      if x11_ = 0 then (
        rv_lt (x3 + (1)) fun x14_ =>
        cX1_refresh_11 n K2 k S a0 x1 x2 x14_)
      else (
        (rv_ck S 0 a0).bind fun u16_ =>
        (fnX1_isDead n S a0 x3).bind fun x19_ =>
        if x19_ = 0 then (
          rv_lt (x2 ||| ((1 : Int32) <<< (x3 &&& 31))) fun x24_ =>
          rv_lt (x3 + (1)) fun x26_ =>
          cX1_refresh_11 n K2 k S a0 x1 x24_ x26_)
        else (
          rv_lt (x3 + (1)) fun x22_ =>
          cX1_refresh_11 n K2 k S a0 x1 x2 x22_)))
set_option maxRecDepth 20000 in
set_option maxHeartbeats 4000000 in
theorem eX1_refresh_11 (n : Nat) (K2 : Nat → Int32 → rvS → Option rvS) (hK2 : ∀ (a0 : Nat) (x1 : Int32) (S : rvS) (S' : rvS), K2 a0 x1 S = some S' → rv_Ev mX1_refresh 2 2 [(0, .ref a0), (1, .int x1)] [] S none S') : ∀ (k : Nat) (S : rvS) (a0 : Nat) (x1 : Int32) (x2 : Int32) (x3 : Int32) (S' : rvS), cX1_refresh_11 n K2 k S a0 x1 x2 x3 = some S' → rv_Ev mX1_refresh 2 11 [(0, .ref a0), (1, .int x1), (2, .int x2), (3, .int x3)] [] S none S' := by
  intro k
  induction k with
  | zero => intro S a0 x1 x2 x3 S' h; exact absurd h (by simp [cX1_refresh_11])
  | succ k ih =>
    intro S a0 x1 x2 x3 S' h
    unfold cX1_refresh_11 at h
    refine re_iloadn (pc := 11) 3 (by decide +kernel : decode cX1_refresh 11 = .ok (.iload_n 3, 1)) rfl ?_
    refine re_aloadn (pc := 12) 0 (by decide +kernel : decode cX1_refresh 12 = .ok (.aload_n 0, 1)) rfl ?_
    obtain ⟨x1_, g2_, h⟩ := rv_b_e h
    refine re_gI (pc := 13) g2_ lfX1_31 rfl (by decide +kernel : decode cX1_refresh 13 = .ok (.getfield 31, 3)) ?_
    rcases rv_if_e h with ⟨g3_, h⟩ | ⟨g3_, h⟩
    · refine re_icmp_ge_t (pc := 16) 53 (by decide +kernel : decode cX1_refresh 16 = .ok (.if_icmp .ge 37, 3)) (by decide) g3_ ?_
      refine re_sub [0, 1, 2] (lv1 := [(0, .ref a0), (1, .int x1), (2, .int x2)]) rfl ?_
      exact eX1_refresh_53 n K2 hK2 S a0 x1 x2 _ h
    · refine re_icmp_ge_f (pc := 16) 53 (by decide +kernel : decode cX1_refresh 16 = .ok (.if_icmp .ge 37, 3)) (by decide) g3_ ?_
      refine re_aloadn (pc := 19) 0 (by decide +kernel : decode cX1_refresh 19 = .ok (.aload_n 0, 1)) rfl ?_
      refine re_iloadn (pc := 20) 1 (by decide +kernel : decode cX1_refresh 20 = .ok (.iload_n 1, 1)) rfl ?_
      refine re_aloadn (pc := 21) 0 (by decide +kernel : decode cX1_refresh 21 = .ok (.aload_n 0, 1)) rfl ?_
      obtain ⟨a4_, g5_, h⟩ := rv_b_e h
      refine re_gR (pc := 22) g5_ lfX1_11 rfl (by decide +kernel : decode cX1_refresh 22 = .ok (.getfield 11, 3)) ?_
      refine re_iloadn (pc := 25) 3 (by decide +kernel : decode cX1_refresh 25 = .ok (.iload_n 3, 1)) rfl ?_
      obtain ⟨x6_, g7_, h⟩ := rv_b_e h
      refine re_aI (pc := 26) g7_ (by decide +kernel : decode cX1_refresh 26 = .ok (.iaload, 1)) ?_
      obtain ⟨u8_, g9_, h⟩ := rv_b_e h
      obtain ⟨x11_, g12_, h⟩ := rv_b_e h
      have m10_ := metX1_areNear n S a0 x1 x6_ _ g12_
      refine re_cV (pc := 27) [.int x1, .int x6_] m10_ (rv_okl.k ⟨rfl, rfl⟩) (rv_up.rf _ _) (by decide) (rv_ck_e g9_) ⟨by decide, rfl⟩ (Nat.le_of_ble_eq_true rfl) lVX1_44 rfl (by decide +kernel : decode cX1_refresh 27 = .ok (.invokevirtual 44, 3)) ?_
      rcases rv_if_e h with ⟨g13_, h⟩ | ⟨g13_, h⟩
      · refine re_if_eq_t (pc := 30) 47 (by decide +kernel : decode cX1_refresh 30 = .ok (.ifCond .eq 17, 3)) (by decide) g13_ ?_
        obtain ⟨x14_, g15_, h⟩ := rv_lt_e h
        refine re_iinc (pc := 47) 3 x14_ (lv1 := [(3, .int x14_), (0, .ref a0), (1, .int x1), (2, .int x2)]) (by decide +kernel : decode cX1_refresh 47 = .ok (.iinc 3 1, 3)) rfl g15_ (by decide) rfl ?_
        refine re_goto (pc := 50) 11 (by decide +kernel : decode cX1_refresh 50 = .ok (.goto (-39), 3)) (by decide) ?_
        refine re_sub [1, 2, 3, 0] (lv1 := [(0, .ref a0), (1, .int x1), (2, .int x2), (3, .int x14_)]) rfl ?_
        exact ih S a0 x1 x2 x14_ _ h
      · refine re_if_eq_f (pc := 30) 47 (by decide +kernel : decode cX1_refresh 30 = .ok (.ifCond .eq 17, 3)) (by decide) g13_ ?_
        refine re_aloadn (pc := 33) 0 (by decide +kernel : decode cX1_refresh 33 = .ok (.aload_n 0, 1)) rfl ?_
        refine re_iloadn (pc := 34) 3 (by decide +kernel : decode cX1_refresh 34 = .ok (.iload_n 3, 1)) rfl ?_
        obtain ⟨u16_, g17_, h⟩ := rv_b_e h
        obtain ⟨x19_, g20_, h⟩ := rv_b_e h
        have m18_ := metX1_isDead n S a0 x3 _ g20_
        refine re_cV (pc := 35) [.int x3] m18_ (rv_okl.k ⟨rfl, rfl⟩) (rv_up.rf _ _) (by decide) (rv_ck_e g17_) ⟨by decide, rfl⟩ (Nat.le_of_ble_eq_true rfl) lVX1_48 rfl (by decide +kernel : decode cX1_refresh 35 = .ok (.invokevirtual 48, 3)) ?_
        rcases rv_if_e h with ⟨g21_, h⟩ | ⟨g21_, h⟩
        · refine re_if_ne_f (pc := 38) 47 (by decide +kernel : decode cX1_refresh 38 = .ok (.ifCond .ne 9, 3)) (by decide) g21_ ?_
          refine re_iloadn (pc := 41) 2 (by decide +kernel : decode cX1_refresh 41 = .ok (.iload_n 2, 1)) rfl ?_
          refine re_iconst (pc := 42) (1 : Int32) (by decide +kernel : decode cX1_refresh 42 = .ok (.iconst 1, 1)) (by decide) ?_
          refine re_iloadn (pc := 43) 3 (by decide +kernel : decode cX1_refresh 43 = .ok (.iload_n 3, 1)) rfl ?_
          refine re_ishl (pc := 44) (by decide +kernel : decode cX1_refresh 44 = .ok (.ishl, 1)) ?_
          refine re_ior (pc := 45) (by decide +kernel : decode cX1_refresh 45 = .ok (.ior, 1)) ?_
          obtain ⟨x24_, g25_, h⟩ := rv_lt_e h
          refine re_nI (pc := 46) g25_ ?_
          refine re_istoren (pc := 46) (lv1 := [(2, .int x24_), (0, .ref a0), (1, .int x1), (3, .int x3)]) (by decide +kernel : decode cX1_refresh 46 = .ok (.istore_n 2, 1)) rfl (by decide) rfl ?_
          obtain ⟨x26_, g27_, h⟩ := rv_lt_e h
          refine re_iinc (pc := 47) 3 x26_ (lv1 := [(3, .int x26_), (2, .int x24_), (0, .ref a0), (1, .int x1)]) (by decide +kernel : decode cX1_refresh 47 = .ok (.iinc 3 1, 3)) rfl g27_ (by decide) rfl ?_
          refine re_goto (pc := 50) 11 (by decide +kernel : decode cX1_refresh 50 = .ok (.goto (-39), 3)) (by decide) ?_
          refine re_sub [2, 3, 1, 0] (lv1 := [(0, .ref a0), (1, .int x1), (2, .int x24_), (3, .int x26_)]) rfl ?_
          exact ih S a0 x1 x24_ x26_ _ h
        · refine re_if_ne_t (pc := 38) 47 (by decide +kernel : decode cX1_refresh 38 = .ok (.ifCond .ne 9, 3)) (by decide) g21_ ?_
          obtain ⟨x22_, g23_, h⟩ := rv_lt_e h
          refine re_iinc (pc := 47) 3 x22_ (lv1 := [(3, .int x22_), (0, .ref a0), (1, .int x1), (2, .int x2)]) (by decide +kernel : decode cX1_refresh 47 = .ok (.iinc 3 1, 3)) rfl g23_ (by decide) rfl ?_
          refine re_goto (pc := 50) 11 (by decide +kernel : decode cX1_refresh 50 = .ok (.goto (-39), 3)) (by decide) ?_
          refine re_sub [1, 2, 3, 0] (lv1 := [(0, .ref a0), (1, .int x1), (2, .int x2), (3, .int x22_)]) rfl ?_
          exact ih S a0 x1 x2 x22_ _ h
noncomputable def cX1_refresh_2 (n : Nat) : Nat → rvS → Nat → Int32 → Option rvS
  | 0, _, _, _ => none
  | k + 1, S, a0, x1 =>
    if (4 : Int32) ≤ x1 then (
      some S)
    else (
      cX1_refresh_11 n (fun a0 x1 S => cX1_refresh_2 n k S a0 x1) n S a0 x1 (0 : Int32) (0 : Int32))
set_option maxRecDepth 20000 in
set_option maxHeartbeats 4000000 in
theorem eX1_refresh_2 (n : Nat) : ∀ (k : Nat) (S : rvS) (a0 : Nat) (x1 : Int32) (S' : rvS), cX1_refresh_2 n k S a0 x1 = some S' → rv_Ev mX1_refresh 2 2 [(0, .ref a0), (1, .int x1)] [] S none S' := by
  intro k
  induction k with
  | zero => intro S a0 x1 S' h; exact absurd h (by simp [cX1_refresh_2])
  | succ k ih =>
    intro S a0 x1 S' h
    unfold cX1_refresh_2 at h
    refine re_iloadn (pc := 2) 1 (by decide +kernel : decode cX1_refresh 2 = .ok (.iload_n 1, 1)) rfl ?_
    refine re_iconst (pc := 3) (4 : Int32) (by decide +kernel : decode cX1_refresh 3 = .ok (.iconst 4, 1)) (by decide) ?_
    rcases rv_if_e h with ⟨g1_, h⟩ | ⟨g1_, h⟩
    · refine re_icmp_ge_t (pc := 4) 66 (by decide +kernel : decode cX1_refresh 4 = .ok (.if_icmp .ge 62, 3)) (by decide) g1_ ?_
      cases h
      exact re_vret (by decide +kernel : decode cX1_refresh 66 = .ok (.return_, 1))
    · refine re_icmp_ge_f (pc := 4) 66 (by decide +kernel : decode cX1_refresh 4 = .ok (.if_icmp .ge 62, 3)) (by decide) g1_ ?_
      refine re_iconst (pc := 7) (0 : Int32) (by decide +kernel : decode cX1_refresh 7 = .ok (.iconst 0, 1)) (by decide) ?_
      refine re_istoren (pc := 8) (lv1 := [(2, .int (0 : Int32)), (0, .ref a0), (1, .int x1)]) (by decide +kernel : decode cX1_refresh 8 = .ok (.istore_n 2, 1)) rfl (by decide) rfl ?_
      refine re_iconst (pc := 9) (0 : Int32) (by decide +kernel : decode cX1_refresh 9 = .ok (.iconst 0, 1)) (by decide) ?_
      refine re_istoren (pc := 10) (lv1 := [(3, .int (0 : Int32)), (2, .int (0 : Int32)), (0, .ref a0), (1, .int x1)]) (by decide +kernel : decode cX1_refresh 10 = .ok (.istore_n 3, 1)) rfl (by decide) rfl ?_
      refine re_sub [2, 3, 1, 0] (lv1 := [(0, .ref a0), (1, .int x1), (2, .int (0 : Int32)), (3, .int (0 : Int32))]) rfl ?_
      exact eX1_refresh_11 n (fun a0 x1 S => cX1_refresh_2 n k S a0 x1) (fun a0 x1 S _ h => ih S a0 x1 _ h) n S a0 x1 (0 : Int32) (0 : Int32) _ h
noncomputable def fnX1_refresh (n : Nat) (S : rvS) (a0 : Nat) : Option rvS :=
  cX1_refresh_2 n n S a0 (0 : Int32)
set_option maxRecDepth 20000 in
set_option maxHeartbeats 4000000 in
theorem eX1_refresh_in (n : Nat) (S : rvS) (a0 : Nat) (S' : rvS) (h : fnX1_refresh n S a0 = some S') : rv_Ev mX1_refresh 2 0 [(0, .ref a0)] [] S none S' := by
  unfold fnX1_refresh at h
  refine re_iconst (pc := 0) (0 : Int32) (by decide +kernel : decode cX1_refresh 0 = .ok (.iconst 0, 1)) (by decide) ?_
  refine re_istoren (pc := 1) (lv1 := [(1, .int (0 : Int32)), (0, .ref a0)]) (by decide +kernel : decode cX1_refresh 1 = .ok (.istore_n 1, 1)) rfl (by decide) rfl ?_
  refine re_sub [1, 0] (lv1 := [(0, .ref a0), (1, .int (0 : Int32))]) rfl ?_
  exact eX1_refresh_2 n n S a0 (0 : Int32) _ h
theorem metX1_refresh (n : Nat) (S : rvS) (a0 : Nat) (S' : rvS) (h : fnX1_refresh n S a0 = some S') : rv_Met yX1_refresh mX1_refresh 2 [.ref a0] S none S' := rv_Met.of ⟨by decide +kernel, rfl, (fun z => by first | rfl | cases z), rfl⟩ (Nat.le_of_ble_eq_true rfl) rfl (eX1_refresh_in n S a0 S' h)
noncomputable def cX1_empty_37 (n : Nat) (S : rvS) (a0 : Nat) : Option rvS :=
  (rv_ck S 0 a0).bind fun u1_ =>
  (fnX1_refresh n S a0).bind fun S4_ =>
  some S4_
set_option maxRecDepth 20000 in
set_option maxHeartbeats 4000000 in
theorem eX1_empty_37 (n : Nat) (S : rvS) (a0 : Nat) (S' : rvS) (h : cX1_empty_37 n S a0 = some S') : rv_Ev mX1_empty 3 37 [(0, .ref a0)] [] S none S' := by
  unfold cX1_empty_37 at h
  refine re_aloadn (pc := 37) 0 (by decide +kernel : decode cX1_empty 37 = .ok (.aload_n 0, 1)) rfl ?_
  obtain ⟨u1_, g2_, h⟩ := rv_b_e h
  obtain ⟨S4_, g5_, h⟩ := rv_b_e h
  have m3_ := metX1_refresh n S a0 _ g5_
  have z6_ : rv_same S S4_ := m3_.sh rfl
  refine re_cV (pc := 38) [] m3_ (rv_okl.k z6_) (rv_up.sh z6_) (by decide) (rv_ck_e g2_) ⟨by decide, rfl⟩ (Nat.le_of_ble_eq_true rfl) lVX1_41 rfl (by decide +kernel : decode cX1_empty 38 = .ok (.invokevirtual 41, 3)) ?_
  cases h
  exact re_vret (by decide +kernel : decode cX1_empty 41 = .ok (.return_, 1))
noncomputable def cX1_empty_17 (n : Nat) : Nat → rvS → Nat → Int32 → Option rvS
  | 0, _, _, _ => none
  | k + 1, S, a0, x1 =>
    if (4 : Int32) ≤ x1 then (
      cX1_empty_37 n S a0)
    else (
      (rv_gR S 0 a0 7).bind fun a2_ =>
      (rv_uI S a2_ x1 ((1 : Int32) <<< (x1 &&& 31))).bind fun S4_ =>
      rv_lt (x1 + (1)) fun x6_ =>
      cX1_empty_17 n k S4_ a0 x6_)
set_option maxRecDepth 20000 in
set_option maxHeartbeats 4000000 in
theorem eX1_empty_17 (n : Nat) : ∀ (k : Nat) (S : rvS) (a0 : Nat) (x1 : Int32) (S' : rvS), cX1_empty_17 n k S a0 x1 = some S' → rv_Ev mX1_empty 3 17 [(0, .ref a0), (1, .int x1)] [] S none S' := by
  intro k
  induction k with
  | zero => intro S a0 x1 S' h; exact absurd h (by simp [cX1_empty_17])
  | succ k ih =>
    intro S a0 x1 S' h
    unfold cX1_empty_17 at h
    refine re_iloadn (pc := 17) 1 (by decide +kernel : decode cX1_empty 17 = .ok (.iload_n 1, 1)) rfl ?_
    refine re_iconst (pc := 18) (4 : Int32) (by decide +kernel : decode cX1_empty 18 = .ok (.iconst 4, 1)) (by decide) ?_
    rcases rv_if_e h with ⟨g1_, h⟩ | ⟨g1_, h⟩
    · refine re_icmp_ge_t (pc := 19) 37 (by decide +kernel : decode cX1_empty 19 = .ok (.if_icmp .ge 18, 3)) (by decide) g1_ ?_
      refine re_sub [0] (lv1 := [(0, .ref a0)]) rfl ?_
      exact eX1_empty_37 n S a0 _ h
    · refine re_icmp_ge_f (pc := 19) 37 (by decide +kernel : decode cX1_empty 19 = .ok (.if_icmp .ge 18, 3)) (by decide) g1_ ?_
      refine re_aloadn (pc := 22) 0 (by decide +kernel : decode cX1_empty 22 = .ok (.aload_n 0, 1)) rfl ?_
      obtain ⟨a2_, g3_, h⟩ := rv_b_e h
      refine re_gR (pc := 23) g3_ lfX1_25 rfl (by decide +kernel : decode cX1_empty 23 = .ok (.getfield 25, 3)) ?_
      refine re_iloadn (pc := 26) 1 (by decide +kernel : decode cX1_empty 26 = .ok (.iload_n 1, 1)) rfl ?_
      refine re_iconst (pc := 27) (1 : Int32) (by decide +kernel : decode cX1_empty 27 = .ok (.iconst 1, 1)) (by decide) ?_
      refine re_iloadn (pc := 28) 1 (by decide +kernel : decode cX1_empty 28 = .ok (.iload_n 1, 1)) rfl ?_
      refine re_ishl (pc := 29) (by decide +kernel : decode cX1_empty 29 = .ok (.ishl, 1)) ?_
      obtain ⟨S4_, g5_, h⟩ := rv_b_e h
      refine re_uI (pc := 30) g5_ (by decide +kernel : decode cX1_empty 30 = .ok (.iastore, 1)) ?_
      obtain ⟨x6_, g7_, h⟩ := rv_lt_e h
      refine re_iinc (pc := 31) 1 x6_ (lv1 := [(1, .int x6_), (0, .ref a0)]) (by decide +kernel : decode cX1_empty 31 = .ok (.iinc 1 1, 3)) rfl g7_ (by decide) rfl ?_
      refine re_goto (pc := 34) 17 (by decide +kernel : decode cX1_empty 34 = .ok (.goto (-17), 3)) (by decide) ?_
      refine re_sub [1, 0] (lv1 := [(0, .ref a0), (1, .int x6_)]) rfl ?_
      exact ih S4_ a0 x6_ _ h
noncomputable def fnX1_empty (n : Nat) (S : rvS) (a0 : Nat) : Option rvS :=
  (rv_pI S 0 a0 0 (0 : Int32)).bind fun S1_ =>
  (rv_pI S1_ 0 a0 1 (0 : Int32)).bind fun S3_ =>
  (rv_pI S3_ 0 a0 2 (0 : Int32)).bind fun S5_ =>
  cX1_empty_17 n n S5_ a0 (0 : Int32)
set_option maxRecDepth 20000 in
set_option maxHeartbeats 4000000 in
theorem eX1_empty_in (n : Nat) (S : rvS) (a0 : Nat) (S' : rvS) (h : fnX1_empty n S a0 = some S') : rv_Ev mX1_empty 3 0 [(0, .ref a0)] [] S none S' := by
  unfold fnX1_empty at h
  refine re_aloadn (pc := 0) 0 (by decide +kernel : decode cX1_empty 0 = .ok (.aload_n 0, 1)) rfl ?_
  refine re_iconst (pc := 1) (0 : Int32) (by decide +kernel : decode cX1_empty 1 = .ok (.iconst 0, 1)) (by decide) ?_
  obtain ⟨S1_, g2_, h⟩ := rv_b_e h
  refine re_pI (pc := 2) g2_ lfX1_31 rfl rfl rfl rfl (by decide +kernel : decode cX1_empty 2 = .ok (.putfield 31, 3)) ?_
  refine re_aloadn (pc := 5) 0 (by decide +kernel : decode cX1_empty 5 = .ok (.aload_n 0, 1)) rfl ?_
  refine re_iconst (pc := 6) (0 : Int32) (by decide +kernel : decode cX1_empty 6 = .ok (.iconst 0, 1)) (by decide) ?_
  obtain ⟨S3_, g4_, h⟩ := rv_b_e h
  refine re_pI (pc := 7) g4_ lfX1_35 rfl rfl rfl rfl (by decide +kernel : decode cX1_empty 7 = .ok (.putfield 35, 3)) ?_
  refine re_aloadn (pc := 10) 0 (by decide +kernel : decode cX1_empty 10 = .ok (.aload_n 0, 1)) rfl ?_
  refine re_iconst (pc := 11) (0 : Int32) (by decide +kernel : decode cX1_empty 11 = .ok (.iconst 0, 1)) (by decide) ?_
  obtain ⟨S5_, g6_, h⟩ := rv_b_e h
  refine re_pI (pc := 12) g6_ lfX1_38 rfl rfl rfl rfl (by decide +kernel : decode cX1_empty 12 = .ok (.putfield 38, 3)) ?_
  refine re_iconst (pc := 15) (0 : Int32) (by decide +kernel : decode cX1_empty 15 = .ok (.iconst 0, 1)) (by decide) ?_
  refine re_istoren (pc := 16) (lv1 := [(1, .int (0 : Int32)), (0, .ref a0)]) (by decide +kernel : decode cX1_empty 16 = .ok (.istore_n 1, 1)) rfl (by decide) rfl ?_
  refine re_sub [1, 0] (lv1 := [(0, .ref a0), (1, .int (0 : Int32))]) rfl ?_
  exact eX1_empty_17 n n S5_ a0 (0 : Int32) _ h
theorem metX1_empty (n : Nat) (S : rvS) (a0 : Nat) (S' : rvS) (h : fnX1_empty n S a0 = some S') : rv_Met yX1_empty mX1_empty 3 [.ref a0] S none S' := rv_Met.of ⟨by decide +kernel, rfl, (fun z => by first | rfl | cases z), rfl⟩ (Nat.le_of_ble_eq_true rfl) rfl (eX1_empty_in n S a0 S' h)
noncomputable def cX1_copyFrom_88 (n : Nat) : Nat → rvS → Nat → Nat → Int32 → Option rvS
  | 0, _, _, _, _ => none
  | k + 1, S, a0, a1, x2 =>
    if (4 : Int32) ≤ x2 then (
      some S)
    else (
      (rv_gR S 0 a0 7).bind fun a2_ =>
      (rv_gR S 0 a1 7).bind fun a4_ =>
      (rv_aI S 0 a4_ x2).bind fun x6_ =>
      (rv_uI S a2_ x2 x6_).bind fun S8_ =>
      (rv_gR S8_ 0 a0 8).bind fun a10_ =>
      (rv_gR S8_ 0 a1 8).bind fun a12_ =>
      (rv_aI S8_ 0 a12_ x2).bind fun x14_ =>
      (rv_uI S8_ a10_ x2 x14_).bind fun S16_ =>
      rv_lt (x2 + (1)) fun x18_ =>
      cX1_copyFrom_88 n k S16_ a0 a1 x18_)
set_option maxRecDepth 20000 in
set_option maxHeartbeats 4000000 in
theorem eX1_copyFrom_88 (n : Nat) : ∀ (k : Nat) (S : rvS) (a0 : Nat) (a1 : Nat) (x2 : Int32) (S' : rvS), cX1_copyFrom_88 n k S a0 a1 x2 = some S' → rv_Ev mX1_copyFrom 0 88 [(0, .ref a0), (1, .ref a1), (2, .int x2)] [] S none S' := by
  intro k
  induction k with
  | zero => intro S a0 a1 x2 S' h; exact absurd h (by simp [cX1_copyFrom_88])
  | succ k ih =>
    intro S a0 a1 x2 S' h
    unfold cX1_copyFrom_88 at h
    refine re_iloadn (pc := 88) 2 (by decide +kernel : decode cX1_copyFrom 88 = .ok (.iload_n 2, 1)) rfl ?_
    refine re_iconst (pc := 89) (4 : Int32) (by decide +kernel : decode cX1_copyFrom 89 = .ok (.iconst 4, 1)) (by decide) ?_
    rcases rv_if_e h with ⟨g1_, h⟩ | ⟨g1_, h⟩
    · refine re_icmp_ge_t (pc := 90) 123 (by decide +kernel : decode cX1_copyFrom 90 = .ok (.if_icmp .ge 33, 3)) (by decide) g1_ ?_
      cases h
      exact re_vret (by decide +kernel : decode cX1_copyFrom 123 = .ok (.return_, 1))
    · refine re_icmp_ge_f (pc := 90) 123 (by decide +kernel : decode cX1_copyFrom 90 = .ok (.if_icmp .ge 33, 3)) (by decide) g1_ ?_
      refine re_aloadn (pc := 93) 0 (by decide +kernel : decode cX1_copyFrom 93 = .ok (.aload_n 0, 1)) rfl ?_
      obtain ⟨a2_, g3_, h⟩ := rv_b_e h
      refine re_gR (pc := 94) g3_ lfX1_25 rfl (by decide +kernel : decode cX1_copyFrom 94 = .ok (.getfield 25, 3)) ?_
      refine re_iloadn (pc := 97) 2 (by decide +kernel : decode cX1_copyFrom 97 = .ok (.iload_n 2, 1)) rfl ?_
      refine re_aloadn (pc := 98) 1 (by decide +kernel : decode cX1_copyFrom 98 = .ok (.aload_n 1, 1)) rfl ?_
      obtain ⟨a4_, g5_, h⟩ := rv_b_e h
      refine re_gR (pc := 99) g5_ lfX1_25 rfl (by decide +kernel : decode cX1_copyFrom 99 = .ok (.getfield 25, 3)) ?_
      refine re_iloadn (pc := 102) 2 (by decide +kernel : decode cX1_copyFrom 102 = .ok (.iload_n 2, 1)) rfl ?_
      obtain ⟨x6_, g7_, h⟩ := rv_b_e h
      refine re_aI (pc := 103) g7_ (by decide +kernel : decode cX1_copyFrom 103 = .ok (.iaload, 1)) ?_
      obtain ⟨S8_, g9_, h⟩ := rv_b_e h
      refine re_uI (pc := 104) g9_ (by decide +kernel : decode cX1_copyFrom 104 = .ok (.iastore, 1)) ?_
      refine re_aloadn (pc := 105) 0 (by decide +kernel : decode cX1_copyFrom 105 = .ok (.aload_n 0, 1)) rfl ?_
      obtain ⟨a10_, g11_, h⟩ := rv_b_e h
      refine re_gR (pc := 106) g11_ lfX1_28 rfl (by decide +kernel : decode cX1_copyFrom 106 = .ok (.getfield 28, 3)) ?_
      refine re_iloadn (pc := 109) 2 (by decide +kernel : decode cX1_copyFrom 109 = .ok (.iload_n 2, 1)) rfl ?_
      refine re_aloadn (pc := 110) 1 (by decide +kernel : decode cX1_copyFrom 110 = .ok (.aload_n 1, 1)) rfl ?_
      obtain ⟨a12_, g13_, h⟩ := rv_b_e h
      refine re_gR (pc := 111) g13_ lfX1_28 rfl (by decide +kernel : decode cX1_copyFrom 111 = .ok (.getfield 28, 3)) ?_
      refine re_iloadn (pc := 114) 2 (by decide +kernel : decode cX1_copyFrom 114 = .ok (.iload_n 2, 1)) rfl ?_
      obtain ⟨x14_, g15_, h⟩ := rv_b_e h
      refine re_aI (pc := 115) g15_ (by decide +kernel : decode cX1_copyFrom 115 = .ok (.iaload, 1)) ?_
      obtain ⟨S16_, g17_, h⟩ := rv_b_e h
      refine re_uI (pc := 116) g17_ (by decide +kernel : decode cX1_copyFrom 116 = .ok (.iastore, 1)) ?_
      obtain ⟨x18_, g19_, h⟩ := rv_lt_e h
      refine re_iinc (pc := 117) 2 x18_ (lv1 := [(2, .int x18_), (0, .ref a0), (1, .ref a1)]) (by decide +kernel : decode cX1_copyFrom 117 = .ok (.iinc 2 1, 3)) rfl g19_ (by decide) rfl ?_
      refine re_goto (pc := 120) 88 (by decide +kernel : decode cX1_copyFrom 120 = .ok (.goto (-32), 3)) (by decide) ?_
      refine re_sub [1, 2, 0] (lv1 := [(0, .ref a0), (1, .ref a1), (2, .int x18_)]) rfl ?_
      exact ih S16_ a0 a1 x18_ _ h
noncomputable def cX1_copyFrom_26 (n : Nat) : Nat → rvS → Nat → Nat → Int32 → Option rvS
  | 0, _, _, _, _ => none
  | k + 1, S, a0, a1, x2 =>
    if (24 : Int32) ≤ x2 then (
      cX1_copyFrom_88 n n S a0 a1 (0 : Int32))
    else (
      (rv_gR S 0 a0 3).bind fun a2_ =>
      (rv_gR S 0 a1 3).bind fun a4_ =>
      (rv_aI S 0 a4_ x2).bind fun x6_ =>
      (rv_uI S a2_ x2 x6_).bind fun S8_ =>
      (rv_gR S8_ 0 a0 4).bind fun a10_ =>
      (rv_gR S8_ 0 a1 4).bind fun a12_ =>
      (rv_aI S8_ 0 a12_ x2).bind fun x14_ =>
      (rv_uI S8_ a10_ x2 x14_).bind fun S16_ =>
      (rv_gR S16_ 0 a0 5).bind fun a18_ =>
      (rv_gR S16_ 0 a1 5).bind fun a20_ =>
      (rv_aI S16_ 0 a20_ x2).bind fun x22_ =>
      (rv_uI S16_ a18_ x2 x22_).bind fun S24_ =>
      (rv_gR S24_ 0 a0 6).bind fun a26_ =>
      (rv_gR S24_ 0 a1 6).bind fun a28_ =>
      (rv_aL S24_ a28_ x2).bind fun x30_ =>
      (rv_uL S24_ a26_ x2 x30_).bind fun S32_ =>
      rv_lt (x2 + (1)) fun x34_ =>
      cX1_copyFrom_26 n k S32_ a0 a1 x34_)
set_option maxRecDepth 20000 in
set_option maxHeartbeats 4000000 in
theorem eX1_copyFrom_26 (n : Nat) : ∀ (k : Nat) (S : rvS) (a0 : Nat) (a1 : Nat) (x2 : Int32) (S' : rvS), cX1_copyFrom_26 n k S a0 a1 x2 = some S' → rv_Ev mX1_copyFrom 0 26 [(0, .ref a0), (1, .ref a1), (2, .int x2)] [] S none S' := by
  intro k
  induction k with
  | zero => intro S a0 a1 x2 S' h; exact absurd h (by simp [cX1_copyFrom_26])
  | succ k ih =>
    intro S a0 a1 x2 S' h
    unfold cX1_copyFrom_26 at h
    refine re_iloadn (pc := 26) 2 (by decide +kernel : decode cX1_copyFrom 26 = .ok (.iload_n 2, 1)) rfl ?_
    refine re_bipush (pc := 27) (24 : Int32) (by decide +kernel : decode cX1_copyFrom 27 = .ok (.bipush 24, 2)) (by decide) ?_
    rcases rv_if_e h with ⟨g1_, h⟩ | ⟨g1_, h⟩
    · refine re_icmp_ge_t (pc := 29) 86 (by decide +kernel : decode cX1_copyFrom 29 = .ok (.if_icmp .ge 57, 3)) (by decide) g1_ ?_
      refine re_iconst (pc := 86) (0 : Int32) (by decide +kernel : decode cX1_copyFrom 86 = .ok (.iconst 0, 1)) (by decide) ?_
      refine re_istoren (pc := 87) (lv1 := [(2, .int (0 : Int32)), (0, .ref a0), (1, .ref a1)]) (by decide +kernel : decode cX1_copyFrom 87 = .ok (.istore_n 2, 1)) rfl (by decide) rfl ?_
      refine re_sub [1, 2, 0] (lv1 := [(0, .ref a0), (1, .ref a1), (2, .int (0 : Int32))]) rfl ?_
      exact eX1_copyFrom_88 n n S a0 a1 (0 : Int32) _ h
    · refine re_icmp_ge_f (pc := 29) 86 (by decide +kernel : decode cX1_copyFrom 29 = .ok (.if_icmp .ge 57, 3)) (by decide) g1_ ?_
      refine re_aloadn (pc := 32) 0 (by decide +kernel : decode cX1_copyFrom 32 = .ok (.aload_n 0, 1)) rfl ?_
      obtain ⟨a2_, g3_, h⟩ := rv_b_e h
      refine re_gR (pc := 33) g3_ lfX1_11 rfl (by decide +kernel : decode cX1_copyFrom 33 = .ok (.getfield 11, 3)) ?_
      refine re_iloadn (pc := 36) 2 (by decide +kernel : decode cX1_copyFrom 36 = .ok (.iload_n 2, 1)) rfl ?_
      refine re_aloadn (pc := 37) 1 (by decide +kernel : decode cX1_copyFrom 37 = .ok (.aload_n 1, 1)) rfl ?_
      obtain ⟨a4_, g5_, h⟩ := rv_b_e h
      refine re_gR (pc := 38) g5_ lfX1_11 rfl (by decide +kernel : decode cX1_copyFrom 38 = .ok (.getfield 11, 3)) ?_
      refine re_iloadn (pc := 41) 2 (by decide +kernel : decode cX1_copyFrom 41 = .ok (.iload_n 2, 1)) rfl ?_
      obtain ⟨x6_, g7_, h⟩ := rv_b_e h
      refine re_aI (pc := 42) g7_ (by decide +kernel : decode cX1_copyFrom 42 = .ok (.iaload, 1)) ?_
      obtain ⟨S8_, g9_, h⟩ := rv_b_e h
      refine re_uI (pc := 43) g9_ (by decide +kernel : decode cX1_copyFrom 43 = .ok (.iastore, 1)) ?_
      refine re_aloadn (pc := 44) 0 (by decide +kernel : decode cX1_copyFrom 44 = .ok (.aload_n 0, 1)) rfl ?_
      obtain ⟨a10_, g11_, h⟩ := rv_b_e h
      refine re_gR (pc := 45) g11_ lfX1_15 rfl (by decide +kernel : decode cX1_copyFrom 45 = .ok (.getfield 15, 3)) ?_
      refine re_iloadn (pc := 48) 2 (by decide +kernel : decode cX1_copyFrom 48 = .ok (.iload_n 2, 1)) rfl ?_
      refine re_aloadn (pc := 49) 1 (by decide +kernel : decode cX1_copyFrom 49 = .ok (.aload_n 1, 1)) rfl ?_
      obtain ⟨a12_, g13_, h⟩ := rv_b_e h
      refine re_gR (pc := 50) g13_ lfX1_15 rfl (by decide +kernel : decode cX1_copyFrom 50 = .ok (.getfield 15, 3)) ?_
      refine re_iloadn (pc := 53) 2 (by decide +kernel : decode cX1_copyFrom 53 = .ok (.iload_n 2, 1)) rfl ?_
      obtain ⟨x14_, g15_, h⟩ := rv_b_e h
      refine re_aI (pc := 54) g15_ (by decide +kernel : decode cX1_copyFrom 54 = .ok (.iaload, 1)) ?_
      obtain ⟨S16_, g17_, h⟩ := rv_b_e h
      refine re_uI (pc := 55) g17_ (by decide +kernel : decode cX1_copyFrom 55 = .ok (.iastore, 1)) ?_
      refine re_aloadn (pc := 56) 0 (by decide +kernel : decode cX1_copyFrom 56 = .ok (.aload_n 0, 1)) rfl ?_
      obtain ⟨a18_, g19_, h⟩ := rv_b_e h
      refine re_gR (pc := 57) g19_ lfX1_18 rfl (by decide +kernel : decode cX1_copyFrom 57 = .ok (.getfield 18, 3)) ?_
      refine re_iloadn (pc := 60) 2 (by decide +kernel : decode cX1_copyFrom 60 = .ok (.iload_n 2, 1)) rfl ?_
      refine re_aloadn (pc := 61) 1 (by decide +kernel : decode cX1_copyFrom 61 = .ok (.aload_n 1, 1)) rfl ?_
      obtain ⟨a20_, g21_, h⟩ := rv_b_e h
      refine re_gR (pc := 62) g21_ lfX1_18 rfl (by decide +kernel : decode cX1_copyFrom 62 = .ok (.getfield 18, 3)) ?_
      refine re_iloadn (pc := 65) 2 (by decide +kernel : decode cX1_copyFrom 65 = .ok (.iload_n 2, 1)) rfl ?_
      obtain ⟨x22_, g23_, h⟩ := rv_b_e h
      refine re_aI (pc := 66) g23_ (by decide +kernel : decode cX1_copyFrom 66 = .ok (.iaload, 1)) ?_
      obtain ⟨S24_, g25_, h⟩ := rv_b_e h
      refine re_uI (pc := 67) g25_ (by decide +kernel : decode cX1_copyFrom 67 = .ok (.iastore, 1)) ?_
      refine re_aloadn (pc := 68) 0 (by decide +kernel : decode cX1_copyFrom 68 = .ok (.aload_n 0, 1)) rfl ?_
      obtain ⟨a26_, g27_, h⟩ := rv_b_e h
      refine re_gR (pc := 69) g27_ lfX1_21 rfl (by decide +kernel : decode cX1_copyFrom 69 = .ok (.getfield 21, 3)) ?_
      refine re_iloadn (pc := 72) 2 (by decide +kernel : decode cX1_copyFrom 72 = .ok (.iload_n 2, 1)) rfl ?_
      refine re_aloadn (pc := 73) 1 (by decide +kernel : decode cX1_copyFrom 73 = .ok (.aload_n 1, 1)) rfl ?_
      obtain ⟨a28_, g29_, h⟩ := rv_b_e h
      refine re_gR (pc := 74) g29_ lfX1_21 rfl (by decide +kernel : decode cX1_copyFrom 74 = .ok (.getfield 21, 3)) ?_
      refine re_iloadn (pc := 77) 2 (by decide +kernel : decode cX1_copyFrom 77 = .ok (.iload_n 2, 1)) rfl ?_
      obtain ⟨x30_, g31_, h⟩ := rv_b_e h
      refine re_aL (pc := 78) g31_ (by decide +kernel : decode cX1_copyFrom 78 = .ok (.laload, 1)) ?_
      obtain ⟨S32_, g33_, h⟩ := rv_b_e h
      refine re_uL (pc := 79) g33_ (by decide +kernel : decode cX1_copyFrom 79 = .ok (.lastore, 1)) ?_
      obtain ⟨x34_, g35_, h⟩ := rv_lt_e h
      refine re_iinc (pc := 80) 2 x34_ (lv1 := [(2, .int x34_), (0, .ref a0), (1, .ref a1)]) (by decide +kernel : decode cX1_copyFrom 80 = .ok (.iinc 2 1, 3)) rfl g35_ (by decide) rfl ?_
      refine re_goto (pc := 83) 26 (by decide +kernel : decode cX1_copyFrom 83 = .ok (.goto (-57), 3)) (by decide) ?_
      refine re_sub [1, 2, 0] (lv1 := [(0, .ref a0), (1, .ref a1), (2, .int x34_)]) rfl ?_
      exact ih S32_ a0 a1 x34_ _ h
noncomputable def fnX1_copyFrom (n : Nat) (S : rvS) (a0 : Nat) (a1 : Nat) : Option rvS :=
  (rv_gI S 0 a1 0).bind fun x1_ =>
  (rv_pI S 0 a0 0 x1_).bind fun S3_ =>
  (rv_gI S3_ 0 a1 1).bind fun x5_ =>
  (rv_pI S3_ 0 a0 1 x5_).bind fun S7_ =>
  (rv_gI S7_ 0 a1 2).bind fun x9_ =>
  (rv_pI S7_ 0 a0 2 x9_).bind fun S11_ =>
  cX1_copyFrom_26 n n S11_ a0 a1 (0 : Int32)
set_option maxRecDepth 20000 in
set_option maxHeartbeats 4000000 in
theorem eX1_copyFrom_in (n : Nat) (S : rvS) (a0 : Nat) (a1 : Nat) (S' : rvS) (h : fnX1_copyFrom n S a0 a1 = some S') : rv_Ev mX1_copyFrom 0 0 [(0, .ref a0), (1, .ref a1)] [] S none S' := by
  unfold fnX1_copyFrom at h
  refine re_aloadn (pc := 0) 0 (by decide +kernel : decode cX1_copyFrom 0 = .ok (.aload_n 0, 1)) rfl ?_
  refine re_aloadn (pc := 1) 1 (by decide +kernel : decode cX1_copyFrom 1 = .ok (.aload_n 1, 1)) rfl ?_
  obtain ⟨x1_, g2_, h⟩ := rv_b_e h
  refine re_gI (pc := 2) g2_ lfX1_31 rfl (by decide +kernel : decode cX1_copyFrom 2 = .ok (.getfield 31, 3)) ?_
  obtain ⟨S3_, g4_, h⟩ := rv_b_e h
  refine re_pI (pc := 5) g4_ lfX1_31 rfl rfl rfl rfl (by decide +kernel : decode cX1_copyFrom 5 = .ok (.putfield 31, 3)) ?_
  refine re_aloadn (pc := 8) 0 (by decide +kernel : decode cX1_copyFrom 8 = .ok (.aload_n 0, 1)) rfl ?_
  refine re_aloadn (pc := 9) 1 (by decide +kernel : decode cX1_copyFrom 9 = .ok (.aload_n 1, 1)) rfl ?_
  obtain ⟨x5_, g6_, h⟩ := rv_b_e h
  refine re_gI (pc := 10) g6_ lfX1_35 rfl (by decide +kernel : decode cX1_copyFrom 10 = .ok (.getfield 35, 3)) ?_
  obtain ⟨S7_, g8_, h⟩ := rv_b_e h
  refine re_pI (pc := 13) g8_ lfX1_35 rfl rfl rfl rfl (by decide +kernel : decode cX1_copyFrom 13 = .ok (.putfield 35, 3)) ?_
  refine re_aloadn (pc := 16) 0 (by decide +kernel : decode cX1_copyFrom 16 = .ok (.aload_n 0, 1)) rfl ?_
  refine re_aloadn (pc := 17) 1 (by decide +kernel : decode cX1_copyFrom 17 = .ok (.aload_n 1, 1)) rfl ?_
  obtain ⟨x9_, g10_, h⟩ := rv_b_e h
  refine re_gI (pc := 18) g10_ lfX1_38 rfl (by decide +kernel : decode cX1_copyFrom 18 = .ok (.getfield 38, 3)) ?_
  obtain ⟨S11_, g12_, h⟩ := rv_b_e h
  refine re_pI (pc := 21) g12_ lfX1_38 rfl rfl rfl rfl (by decide +kernel : decode cX1_copyFrom 21 = .ok (.putfield 38, 3)) ?_
  refine re_iconst (pc := 24) (0 : Int32) (by decide +kernel : decode cX1_copyFrom 24 = .ok (.iconst 0, 1)) (by decide) ?_
  refine re_istoren (pc := 25) (lv1 := [(2, .int (0 : Int32)), (0, .ref a0), (1, .ref a1)]) (by decide +kernel : decode cX1_copyFrom 25 = .ok (.istore_n 2, 1)) rfl (by decide) rfl ?_
  refine re_sub [1, 2, 0] (lv1 := [(0, .ref a0), (1, .ref a1), (2, .int (0 : Int32))]) rfl ?_
  exact eX1_copyFrom_26 n n S11_ a0 a1 (0 : Int32) _ h
theorem metX1_copyFrom (n : Nat) (S : rvS) (a0 : Nat) (a1 : Nat) (S' : rvS) (h : fnX1_copyFrom n S a0 a1 = some S') : rv_Met yX1_copyFrom mX1_copyFrom 0 [.ref a0, .ref a1] S none S' := rv_Met.of ⟨by decide +kernel, rfl, (fun z => by first | rfl | cases z), rfl⟩ (Nat.le_of_ble_eq_true rfl) rfl (eX1_copyFrom_in n S a0 a1 S' h)
noncomputable def fnX1_has (n : Nat) (S : rvS) (a0 : Nat) (x1 : Int32) : Option Int32 :=
  if x1 < 0 then (
    some (0 : Int32))
  else (
    (rv_gI S 0 a0 0).bind fun x2_ =>
    if x2_ ≤ x1 then (
      some (0 : Int32))
    else (
      some (1 : Int32)))
set_option maxRecDepth 20000 in
set_option maxHeartbeats 4000000 in
theorem eX1_has_in (n : Nat) (S : rvS) (a0 : Nat) (x1 : Int32) (r : Int32) (h : fnX1_has n S a0 x1 = some r) : rv_Ev mX1_has 0 0 [(0, .ref a0), (1, .int x1)] [] S (some (.int r)) S := by
  unfold fnX1_has at h
  refine re_iloadn (pc := 0) 1 (by decide +kernel : decode cX1_has 0 = .ok (.iload_n 1, 1)) rfl ?_
  rcases rv_if_e h with ⟨g1_, h⟩ | ⟨g1_, h⟩
  · refine re_if_lt_t (pc := 1) 16 (by decide +kernel : decode cX1_has 1 = .ok (.ifCond .lt 15, 3)) (by decide) g1_ ?_
    refine re_iconst (pc := 16) (0 : Int32) (by decide +kernel : decode cX1_has 16 = .ok (.iconst 0, 1)) (by decide) ?_
    cases h
    exact re_iret (fun ty hty => by cases hty; rfl) (by decide +kernel : decode cX1_has 17 = .ok (.ireturn, 1))
  · refine re_if_lt_f (pc := 1) 16 (by decide +kernel : decode cX1_has 1 = .ok (.ifCond .lt 15, 3)) (by decide) g1_ ?_
    refine re_iloadn (pc := 4) 1 (by decide +kernel : decode cX1_has 4 = .ok (.iload_n 1, 1)) rfl ?_
    refine re_aloadn (pc := 5) 0 (by decide +kernel : decode cX1_has 5 = .ok (.aload_n 0, 1)) rfl ?_
    obtain ⟨x2_, g3_, h⟩ := rv_b_e h
    refine re_gI (pc := 6) g3_ lfX1_31 rfl (by decide +kernel : decode cX1_has 6 = .ok (.getfield 31, 3)) ?_
    rcases rv_if_e h with ⟨g4_, h⟩ | ⟨g4_, h⟩
    · refine re_icmp_ge_t (pc := 9) 16 (by decide +kernel : decode cX1_has 9 = .ok (.if_icmp .ge 7, 3)) (by decide) g4_ ?_
      refine re_iconst (pc := 16) (0 : Int32) (by decide +kernel : decode cX1_has 16 = .ok (.iconst 0, 1)) (by decide) ?_
      cases h
      exact re_iret (fun ty hty => by cases hty; rfl) (by decide +kernel : decode cX1_has 17 = .ok (.ireturn, 1))
    · refine re_icmp_ge_f (pc := 9) 16 (by decide +kernel : decode cX1_has 9 = .ok (.if_icmp .ge 7, 3)) (by decide) g4_ ?_
      refine re_iconst (pc := 12) (1 : Int32) (by decide +kernel : decode cX1_has 12 = .ok (.iconst 1, 1)) (by decide) ?_
      refine re_goto (pc := 13) 17 (by decide +kernel : decode cX1_has 13 = .ok (.goto 4, 3)) (by decide) ?_
      cases h
      exact re_iret (fun ty hty => by cases hty; rfl) (by decide +kernel : decode cX1_has 17 = .ok (.ireturn, 1))
theorem metX1_has (n : Nat) (S : rvS) (a0 : Nat) (x1 : Int32) (r : Int32) (h : fnX1_has n S a0 x1 = some r) : rv_Met yX1_has mX1_has 0 [.ref a0, .int x1] S (some (.int r)) S := rv_Met.of ⟨by decide +kernel, rfl, (fun z => by first | rfl | cases z), rfl⟩ (Nat.le_of_ble_eq_true rfl) rfl (eX1_has_in n S a0 x1 r h)
noncomputable def fnX1_isStranger (n : Nat) (S : rvS) (a0 : Nat) (x1 : Int32) : Option Int32 :=
  (rv_gI S 0 a0 2).bind fun x1_ =>
  if (((x1_.toUInt32 >>> (x1.toUInt32 &&& Int32.toUInt32 31)).toInt32) &&& (1 : Int32)) = 0 then (
    some (0 : Int32))
  else (
    some (1 : Int32))
set_option maxRecDepth 20000 in
set_option maxHeartbeats 4000000 in
theorem eX1_isStranger_in (n : Nat) (S : rvS) (a0 : Nat) (x1 : Int32) (r : Int32) (h : fnX1_isStranger n S a0 x1 = some r) : rv_Ev mX1_isStranger 0 0 [(0, .ref a0), (1, .int x1)] [] S (some (.int r)) S := by
  unfold fnX1_isStranger at h
  refine re_aloadn (pc := 0) 0 (by decide +kernel : decode cX1_isStranger 0 = .ok (.aload_n 0, 1)) rfl ?_
  obtain ⟨x1_, g2_, h⟩ := rv_b_e h
  refine re_gI (pc := 1) g2_ lfX1_38 rfl (by decide +kernel : decode cX1_isStranger 1 = .ok (.getfield 38, 3)) ?_
  refine re_iloadn (pc := 4) 1 (by decide +kernel : decode cX1_isStranger 4 = .ok (.iload_n 1, 1)) rfl ?_
  refine re_iushr (pc := 5) (by decide +kernel : decode cX1_isStranger 5 = .ok (.iushr, 1)) ?_
  refine re_iconst (pc := 6) (1 : Int32) (by decide +kernel : decode cX1_isStranger 6 = .ok (.iconst 1, 1)) (by decide) ?_
  refine re_iand (pc := 7) (by decide +kernel : decode cX1_isStranger 7 = .ok (.iand, 1)) ?_
  rcases rv_if_e h with ⟨g3_, h⟩ | ⟨g3_, h⟩
  · refine re_if_eq_t (pc := 8) 15 (by decide +kernel : decode cX1_isStranger 8 = .ok (.ifCond .eq 7, 3)) (by decide) g3_ ?_
    refine re_iconst (pc := 15) (0 : Int32) (by decide +kernel : decode cX1_isStranger 15 = .ok (.iconst 0, 1)) (by decide) ?_
    cases h
    exact re_iret (fun ty hty => by cases hty; rfl) (by decide +kernel : decode cX1_isStranger 16 = .ok (.ireturn, 1))
  · refine re_if_eq_f (pc := 8) 15 (by decide +kernel : decode cX1_isStranger 8 = .ok (.ifCond .eq 7, 3)) (by decide) g3_ ?_
    refine re_iconst (pc := 11) (1 : Int32) (by decide +kernel : decode cX1_isStranger 11 = .ok (.iconst 1, 1)) (by decide) ?_
    refine re_goto (pc := 12) 16 (by decide +kernel : decode cX1_isStranger 12 = .ok (.goto 4, 3)) (by decide) ?_
    cases h
    exact re_iret (fun ty hty => by cases hty; rfl) (by decide +kernel : decode cX1_isStranger 16 = .ok (.ireturn, 1))
theorem metX1_isStranger (n : Nat) (S : rvS) (a0 : Nat) (x1 : Int32) (r : Int32) (h : fnX1_isStranger n S a0 x1 = some r) : rv_Met yX1_isStranger mX1_isStranger 0 [.ref a0, .int x1] S (some (.int r)) S := rv_Met.of ⟨by decide +kernel, rfl, (fun z => by first | rfl | cases z), rfl⟩ (Nat.le_of_ble_eq_true rfl) rfl (eX1_isStranger_in n S a0 x1 r h)
noncomputable def fnX1_isFree (n : Nat) (S : rvS) (a0 : Nat) (x1 : Int32) : Option Int32 :=
  (rv_ck S 0 a0).bind fun u1_ =>
  (fnX1_has n S a0 x1).bind fun x4_ =>
  if x4_ = 0 then (
    some (0 : Int32))
  else (
    (rv_ck S 0 a0).bind fun u7_ =>
    (fnX1_isDead n S a0 x1).bind fun x10_ =>
    if x10_ = 0 then (
      (rv_gR S 0 a0 4).bind fun a13_ =>
      (rv_aI S 0 a13_ x1).bind fun x15_ =>
      if x15_ = ((1 : Int32) <<< (x1 &&& 31)) then (
        some (1 : Int32))
      else (
        some (0 : Int32)))
    else (
      some (0 : Int32)))
set_option maxRecDepth 20000 in
set_option maxHeartbeats 4000000 in
theorem eX1_isFree_in (n : Nat) (S : rvS) (a0 : Nat) (x1 : Int32) (r : Int32) (h : fnX1_isFree n S a0 x1 = some r) : rv_Ev mX1_isFree 1 0 [(0, .ref a0), (1, .int x1)] [] S (some (.int r)) S := by
  unfold fnX1_isFree at h
  refine re_aloadn (pc := 0) 0 (by decide +kernel : decode cX1_isFree 0 = .ok (.aload_n 0, 1)) rfl ?_
  refine re_iloadn (pc := 1) 1 (by decide +kernel : decode cX1_isFree 1 = .ok (.iload_n 1, 1)) rfl ?_
  obtain ⟨u1_, g2_, h⟩ := rv_b_e h
  obtain ⟨x4_, g5_, h⟩ := rv_b_e h
  have m3_ := metX1_has n S a0 x1 _ g5_
  refine re_cV (pc := 2) [.int x1] m3_ (rv_okl.k ⟨rfl, rfl⟩) (rv_up.rf _ _) (by decide) (rv_ck_e g2_) ⟨by decide, rfl⟩ (Nat.le_of_ble_eq_true rfl) lVX1_52 rfl (by decide +kernel : decode cX1_isFree 2 = .ok (.invokevirtual 52, 3)) ?_
  rcases rv_if_e h with ⟨g6_, h⟩ | ⟨g6_, h⟩
  · refine re_if_eq_t (pc := 5) 32 (by decide +kernel : decode cX1_isFree 5 = .ok (.ifCond .eq 27, 3)) (by decide) g6_ ?_
    refine re_iconst (pc := 32) (0 : Int32) (by decide +kernel : decode cX1_isFree 32 = .ok (.iconst 0, 1)) (by decide) ?_
    cases h
    exact re_iret (fun ty hty => by cases hty; rfl) (by decide +kernel : decode cX1_isFree 33 = .ok (.ireturn, 1))
  · refine re_if_eq_f (pc := 5) 32 (by decide +kernel : decode cX1_isFree 5 = .ok (.ifCond .eq 27, 3)) (by decide) g6_ ?_
    refine re_aloadn (pc := 8) 0 (by decide +kernel : decode cX1_isFree 8 = .ok (.aload_n 0, 1)) rfl ?_
    refine re_iloadn (pc := 9) 1 (by decide +kernel : decode cX1_isFree 9 = .ok (.iload_n 1, 1)) rfl ?_
    obtain ⟨u7_, g8_, h⟩ := rv_b_e h
    obtain ⟨x10_, g11_, h⟩ := rv_b_e h
    have m9_ := metX1_isDead n S a0 x1 _ g11_
    refine re_cV (pc := 10) [.int x1] m9_ (rv_okl.k ⟨rfl, rfl⟩) (rv_up.rf _ _) (by decide) (rv_ck_e g8_) ⟨by decide, rfl⟩ (Nat.le_of_ble_eq_true rfl) lVX1_48 rfl (by decide +kernel : decode cX1_isFree 10 = .ok (.invokevirtual 48, 3)) ?_
    rcases rv_if_e h with ⟨g12_, h⟩ | ⟨g12_, h⟩
    · refine re_if_ne_f (pc := 13) 32 (by decide +kernel : decode cX1_isFree 13 = .ok (.ifCond .ne 19, 3)) (by decide) g12_ ?_
      refine re_aloadn (pc := 16) 0 (by decide +kernel : decode cX1_isFree 16 = .ok (.aload_n 0, 1)) rfl ?_
      obtain ⟨a13_, g14_, h⟩ := rv_b_e h
      refine re_gR (pc := 17) g14_ lfX1_15 rfl (by decide +kernel : decode cX1_isFree 17 = .ok (.getfield 15, 3)) ?_
      refine re_iloadn (pc := 20) 1 (by decide +kernel : decode cX1_isFree 20 = .ok (.iload_n 1, 1)) rfl ?_
      obtain ⟨x15_, g16_, h⟩ := rv_b_e h
      refine re_aI (pc := 21) g16_ (by decide +kernel : decode cX1_isFree 21 = .ok (.iaload, 1)) ?_
      refine re_iconst (pc := 22) (1 : Int32) (by decide +kernel : decode cX1_isFree 22 = .ok (.iconst 1, 1)) (by decide) ?_
      refine re_iloadn (pc := 23) 1 (by decide +kernel : decode cX1_isFree 23 = .ok (.iload_n 1, 1)) rfl ?_
      refine re_ishl (pc := 24) (by decide +kernel : decode cX1_isFree 24 = .ok (.ishl, 1)) ?_
      rcases rv_if_e h with ⟨g17_, h⟩ | ⟨g17_, h⟩
      · refine re_icmp_ne_f (pc := 25) 32 (by decide +kernel : decode cX1_isFree 25 = .ok (.if_icmp .ne 7, 3)) (by decide) g17_ ?_
        refine re_iconst (pc := 28) (1 : Int32) (by decide +kernel : decode cX1_isFree 28 = .ok (.iconst 1, 1)) (by decide) ?_
        refine re_goto (pc := 29) 33 (by decide +kernel : decode cX1_isFree 29 = .ok (.goto 4, 3)) (by decide) ?_
        cases h
        exact re_iret (fun ty hty => by cases hty; rfl) (by decide +kernel : decode cX1_isFree 33 = .ok (.ireturn, 1))
      · refine re_icmp_ne_t (pc := 25) 32 (by decide +kernel : decode cX1_isFree 25 = .ok (.if_icmp .ne 7, 3)) (by decide) g17_ ?_
        refine re_iconst (pc := 32) (0 : Int32) (by decide +kernel : decode cX1_isFree 32 = .ok (.iconst 0, 1)) (by decide) ?_
        cases h
        exact re_iret (fun ty hty => by cases hty; rfl) (by decide +kernel : decode cX1_isFree 33 = .ok (.ireturn, 1))
    · refine re_if_ne_t (pc := 13) 32 (by decide +kernel : decode cX1_isFree 13 = .ok (.ifCond .ne 19, 3)) (by decide) g12_ ?_
      refine re_iconst (pc := 32) (0 : Int32) (by decide +kernel : decode cX1_isFree 32 = .ok (.iconst 0, 1)) (by decide) ?_
      cases h
      exact re_iret (fun ty hty => by cases hty; rfl) (by decide +kernel : decode cX1_isFree 33 = .ok (.ireturn, 1))
theorem metX1_isFree (n : Nat) (S : rvS) (a0 : Nat) (x1 : Int32) (r : Int32) (h : fnX1_isFree n S a0 x1 = some r) : rv_Met yX1_isFree mX1_isFree 1 [.ref a0, .int x1] S (some (.int r)) S := rv_Met.of ⟨by decide +kernel, rfl, (fun z => by first | rfl | cases z), rfl⟩ (Nat.le_of_ble_eq_true rfl) rfl (eX1_isFree_in n S a0 x1 r h)
noncomputable def fnX1_join (n : Nat) (S : rvS) (a0 : Nat) (x1 : Int32) (x2 : Int32) : Option rvS :=
  (fnX1_isVillage n S x1).bind fun x2_ =>
  if x2_ = 0 then (
    some S)
  else (
    (fnX1_isVillage n S x2).bind fun x6_ =>
    if x6_ = 0 then (
      some S)
    else (
      (rv_gR S 0 a0 7).bind fun a9_ =>
      (rv_aI S 0 a9_ x1).bind fun x11_ =>
      (rv_uI S a9_ x1 (x11_ ||| ((1 : Int32) <<< (x2 &&& 31)))).bind fun S13_ =>
      (rv_gR S13_ 0 a0 7).bind fun a15_ =>
      (rv_aI S13_ 0 a15_ x2).bind fun x17_ =>
      (rv_uI S13_ a15_ x2 (x17_ ||| ((1 : Int32) <<< (x1 &&& 31)))).bind fun S19_ =>
      (rv_ck S19_ 0 a0).bind fun u21_ =>
      (fnX1_refresh n S19_ a0).bind fun S24_ =>
      some S24_))
set_option maxRecDepth 20000 in
set_option maxHeartbeats 4000000 in
theorem eX1_join_in (n : Nat) (S : rvS) (a0 : Nat) (x1 : Int32) (x2 : Int32) (S' : rvS) (h : fnX1_join n S a0 x1 x2 = some S') : rv_Ev mX1_join 3 0 [(0, .ref a0), (1, .int x1), (2, .int x2)] [] S none S' := by
  unfold fnX1_join at h
  refine re_iloadn (pc := 0) 1 (by decide +kernel : decode cX1_join 0 = .ok (.iload_n 1, 1)) rfl ?_
  obtain ⟨x2_, g3_, h⟩ := rv_b_e h
  have m1_ := metX1_isVillage n S x1 _ g3_
  refine re_cS (pc := 1) [.int x1] m1_ (rv_okl.k ⟨rfl, rfl⟩) (rv_up.rf _ _) (by decide) (Nat.le_of_ble_eq_true rfl) lSX1_55 rfl (by decide +kernel : decode cX1_join 1 = .ok (.invokestatic 55, 3)) ?_
  rcases rv_if_e h with ⟨g4_, h⟩ | ⟨g4_, h⟩
  · refine re_if_eq_t (pc := 4) 42 (by decide +kernel : decode cX1_join 4 = .ok (.ifCond .eq 38, 3)) (by decide) g4_ ?_
    cases h
    exact re_vret (by decide +kernel : decode cX1_join 42 = .ok (.return_, 1))
  · refine re_if_eq_f (pc := 4) 42 (by decide +kernel : decode cX1_join 4 = .ok (.ifCond .eq 38, 3)) (by decide) g4_ ?_
    refine re_iloadn (pc := 7) 2 (by decide +kernel : decode cX1_join 7 = .ok (.iload_n 2, 1)) rfl ?_
    obtain ⟨x6_, g7_, h⟩ := rv_b_e h
    have m5_ := metX1_isVillage n S x2 _ g7_
    refine re_cS (pc := 8) [.int x2] m5_ (rv_okl.k ⟨rfl, rfl⟩) (rv_up.rf _ _) (by decide) (Nat.le_of_ble_eq_true rfl) lSX1_55 rfl (by decide +kernel : decode cX1_join 8 = .ok (.invokestatic 55, 3)) ?_
    rcases rv_if_e h with ⟨g8_, h⟩ | ⟨g8_, h⟩
    · refine re_if_eq_t (pc := 11) 42 (by decide +kernel : decode cX1_join 11 = .ok (.ifCond .eq 31, 3)) (by decide) g8_ ?_
      cases h
      exact re_vret (by decide +kernel : decode cX1_join 42 = .ok (.return_, 1))
    · refine re_if_eq_f (pc := 11) 42 (by decide +kernel : decode cX1_join 11 = .ok (.ifCond .eq 31, 3)) (by decide) g8_ ?_
      refine re_aloadn (pc := 14) 0 (by decide +kernel : decode cX1_join 14 = .ok (.aload_n 0, 1)) rfl ?_
      obtain ⟨a9_, g10_, h⟩ := rv_b_e h
      refine re_gR (pc := 15) g10_ lfX1_25 rfl (by decide +kernel : decode cX1_join 15 = .ok (.getfield 25, 3)) ?_
      refine re_iloadn (pc := 18) 1 (by decide +kernel : decode cX1_join 18 = .ok (.iload_n 1, 1)) rfl ?_
      refine re_dup2 (pc := 19) (by decide +kernel : decode cX1_join 19 = .ok (.dup2, 1)) rfl rfl ?_
      obtain ⟨x11_, g12_, h⟩ := rv_b_e h
      refine re_aI (pc := 20) g12_ (by decide +kernel : decode cX1_join 20 = .ok (.iaload, 1)) ?_
      refine re_iconst (pc := 21) (1 : Int32) (by decide +kernel : decode cX1_join 21 = .ok (.iconst 1, 1)) (by decide) ?_
      refine re_iloadn (pc := 22) 2 (by decide +kernel : decode cX1_join 22 = .ok (.iload_n 2, 1)) rfl ?_
      refine re_ishl (pc := 23) (by decide +kernel : decode cX1_join 23 = .ok (.ishl, 1)) ?_
      refine re_ior (pc := 24) (by decide +kernel : decode cX1_join 24 = .ok (.ior, 1)) ?_
      obtain ⟨S13_, g14_, h⟩ := rv_b_e h
      refine re_uI (pc := 25) g14_ (by decide +kernel : decode cX1_join 25 = .ok (.iastore, 1)) ?_
      refine re_aloadn (pc := 26) 0 (by decide +kernel : decode cX1_join 26 = .ok (.aload_n 0, 1)) rfl ?_
      obtain ⟨a15_, g16_, h⟩ := rv_b_e h
      refine re_gR (pc := 27) g16_ lfX1_25 rfl (by decide +kernel : decode cX1_join 27 = .ok (.getfield 25, 3)) ?_
      refine re_iloadn (pc := 30) 2 (by decide +kernel : decode cX1_join 30 = .ok (.iload_n 2, 1)) rfl ?_
      refine re_dup2 (pc := 31) (by decide +kernel : decode cX1_join 31 = .ok (.dup2, 1)) rfl rfl ?_
      obtain ⟨x17_, g18_, h⟩ := rv_b_e h
      refine re_aI (pc := 32) g18_ (by decide +kernel : decode cX1_join 32 = .ok (.iaload, 1)) ?_
      refine re_iconst (pc := 33) (1 : Int32) (by decide +kernel : decode cX1_join 33 = .ok (.iconst 1, 1)) (by decide) ?_
      refine re_iloadn (pc := 34) 1 (by decide +kernel : decode cX1_join 34 = .ok (.iload_n 1, 1)) rfl ?_
      refine re_ishl (pc := 35) (by decide +kernel : decode cX1_join 35 = .ok (.ishl, 1)) ?_
      refine re_ior (pc := 36) (by decide +kernel : decode cX1_join 36 = .ok (.ior, 1)) ?_
      obtain ⟨S19_, g20_, h⟩ := rv_b_e h
      refine re_uI (pc := 37) g20_ (by decide +kernel : decode cX1_join 37 = .ok (.iastore, 1)) ?_
      refine re_aloadn (pc := 38) 0 (by decide +kernel : decode cX1_join 38 = .ok (.aload_n 0, 1)) rfl ?_
      obtain ⟨u21_, g22_, h⟩ := rv_b_e h
      obtain ⟨S24_, g25_, h⟩ := rv_b_e h
      have m23_ := metX1_refresh n S19_ a0 _ g25_
      have z26_ : rv_same S19_ S24_ := m23_.sh rfl
      refine re_cV (pc := 39) [] m23_ (rv_okl.k z26_) (rv_up.sh z26_) (by decide) (rv_ck_e g22_) ⟨by decide, rfl⟩ (Nat.le_of_ble_eq_true rfl) lVX1_41 rfl (by decide +kernel : decode cX1_join 39 = .ok (.invokevirtual 41, 3)) ?_
      cases h
      exact re_vret (by decide +kernel : decode cX1_join 42 = .ok (.return_, 1))
theorem metX1_join (n : Nat) (S : rvS) (a0 : Nat) (x1 : Int32) (x2 : Int32) (S' : rvS) (h : fnX1_join n S a0 x1 x2 = some S') : rv_Met yX1_join mX1_join 3 [.ref a0, .int x1, .int x2] S none S' := rv_Met.of ⟨by decide +kernel, rfl, (fun z => by first | rfl | cases z), rfl⟩ (Nat.le_of_ble_eq_true rfl) rfl (eX1_join_in n S a0 x1 x2 S' h)
noncomputable def cX1_roadsLead_33 (n : Nat) (K24 : Nat → Int32 → Int32 → Int32 → Option Int32) (S : rvS) : Nat → Nat → Int32 → Int32 → Int32 → Int32 → Option Int32
  | 0, _, _, _, _, _ => none
  | k + 1, a0, x2, x3, x4, x5 =>
    if (4 : Int32) ≤ x5 then (
      rv_lt (x4 + (1)) fun x2_ =>
      K24 a0 x2 x3 x2_)
    else (
      if (((x3.toUInt32 >>> (x5.toUInt32 &&& Int32.toUInt32 31)).toInt32) &&& (1 : Int32)) = 0 then (
        rv_lt (x5 + (1)) fun x5_ =>
        cX1_roadsLead_33 n K24 S k a0 x2 x3 x4 x5_)
      else (
        (rv_gR S 0 a0 7).bind fun a7_ =>
        (rv_aI S 0 a7_ x5).bind fun x9_ =>
        rv_lt (x3 ||| x9_) fun x11_ =>
        rv_lt (x5 + (1)) fun x13_ =>
        cX1_roadsLead_33 n K24 S k a0 x2 x11_ x4 x13_))
set_option maxRecDepth 20000 in
set_option maxHeartbeats 4000000 in
theorem eX1_roadsLead_33 (n : Nat) (S : rvS) (K24 : Nat → Int32 → Int32 → Int32 → Option Int32) (hK24 : ∀ (a0 : Nat) (x2 : Int32) (x3 : Int32) (x4 : Int32) (r : Int32), K24 a0 x2 x3 x4 = some r → rv_Ev mX1_roadsLead 1 24 [(0, .ref a0), (2, .int x2), (3, .int x3), (4, .int x4)] [] S (some (.int r)) S) : ∀ (k : Nat) (a0 : Nat) (x2 : Int32) (x3 : Int32) (x4 : Int32) (x5 : Int32) (r : Int32), cX1_roadsLead_33 n K24 S k a0 x2 x3 x4 x5 = some r → rv_Ev mX1_roadsLead 1 33 [(0, .ref a0), (2, .int x2), (3, .int x3), (4, .int x4), (5, .int x5)] [] S (some (.int r)) S := by
  intro k
  induction k with
  | zero => intro a0 x2 x3 x4 x5 r h; exact absurd h (by simp [cX1_roadsLead_33])
  | succ k ih =>
    intro a0 x2 x3 x4 x5 r h
    unfold cX1_roadsLead_33 at h
    refine re_iload (pc := 33) 4 (by decide +kernel : decode cX1_roadsLead 33 = .ok (.iload 5, 2)) rfl ?_
    refine re_iconst (pc := 35) (4 : Int32) (by decide +kernel : decode cX1_roadsLead 35 = .ok (.iconst 4, 1)) (by decide) ?_
    rcases rv_if_e h with ⟨g1_, h⟩ | ⟨g1_, h⟩
    · refine re_icmp_ge_t (pc := 36) 64 (by decide +kernel : decode cX1_roadsLead 36 = .ok (.if_icmp .ge 28, 3)) (by decide) g1_ ?_
      obtain ⟨x2_, g3_, h⟩ := rv_lt_e h
      refine re_iinc (pc := 64) 3 x2_ (lv1 := [(4, .int x2_), (0, .ref a0), (2, .int x2), (3, .int x3), (5, .int x5)]) (by decide +kernel : decode cX1_roadsLead 64 = .ok (.iinc 4 1, 3)) rfl g3_ (by decide) rfl ?_
      refine re_goto (pc := 67) 24 (by decide +kernel : decode cX1_roadsLead 67 = .ok (.goto (-43), 3)) (by decide) ?_
      refine re_sub [1, 2, 3, 0] (lv1 := [(0, .ref a0), (2, .int x2), (3, .int x3), (4, .int x2_)]) rfl ?_
      exact hK24 a0 x2 x3 x2_ _ h
    · refine re_icmp_ge_f (pc := 36) 64 (by decide +kernel : decode cX1_roadsLead 36 = .ok (.if_icmp .ge 28, 3)) (by decide) g1_ ?_
      refine re_iloadn (pc := 39) 2 (by decide +kernel : decode cX1_roadsLead 39 = .ok (.iload_n 3, 1)) rfl ?_
      refine re_iload (pc := 40) 4 (by decide +kernel : decode cX1_roadsLead 40 = .ok (.iload 5, 2)) rfl ?_
      refine re_iushr (pc := 42) (by decide +kernel : decode cX1_roadsLead 42 = .ok (.iushr, 1)) ?_
      refine re_iconst (pc := 43) (1 : Int32) (by decide +kernel : decode cX1_roadsLead 43 = .ok (.iconst 1, 1)) (by decide) ?_
      refine re_iand (pc := 44) (by decide +kernel : decode cX1_roadsLead 44 = .ok (.iand, 1)) ?_
      rcases rv_if_e h with ⟨g4_, h⟩ | ⟨g4_, h⟩
      · refine re_if_eq_t (pc := 45) 58 (by decide +kernel : decode cX1_roadsLead 45 = .ok (.ifCond .eq 13, 3)) (by decide) g4_ ?_
        obtain ⟨x5_, g6_, h⟩ := rv_lt_e h
        refine re_iinc (pc := 58) 4 x5_ (lv1 := [(5, .int x5_), (0, .ref a0), (2, .int x2), (3, .int x3), (4, .int x4)]) (by decide +kernel : decode cX1_roadsLead 58 = .ok (.iinc 5 1, 3)) rfl g6_ (by decide) rfl ?_
        refine re_goto (pc := 61) 33 (by decide +kernel : decode cX1_roadsLead 61 = .ok (.goto (-28), 3)) (by decide) ?_
        refine re_sub [1, 2, 3, 4, 0] (lv1 := [(0, .ref a0), (2, .int x2), (3, .int x3), (4, .int x4), (5, .int x5_)]) rfl ?_
        exact ih a0 x2 x3 x4 x5_ _ h
      · refine re_if_eq_f (pc := 45) 58 (by decide +kernel : decode cX1_roadsLead 45 = .ok (.ifCond .eq 13, 3)) (by decide) g4_ ?_
        refine re_iloadn (pc := 48) 2 (by decide +kernel : decode cX1_roadsLead 48 = .ok (.iload_n 3, 1)) rfl ?_
        refine re_aloadn (pc := 49) 0 (by decide +kernel : decode cX1_roadsLead 49 = .ok (.aload_n 0, 1)) rfl ?_
        obtain ⟨a7_, g8_, h⟩ := rv_b_e h
        refine re_gR (pc := 50) g8_ lfX1_25 rfl (by decide +kernel : decode cX1_roadsLead 50 = .ok (.getfield 25, 3)) ?_
        refine re_iload (pc := 53) 4 (by decide +kernel : decode cX1_roadsLead 53 = .ok (.iload 5, 2)) rfl ?_
        obtain ⟨x9_, g10_, h⟩ := rv_b_e h
        refine re_aI (pc := 55) g10_ (by decide +kernel : decode cX1_roadsLead 55 = .ok (.iaload, 1)) ?_
        refine re_ior (pc := 56) (by decide +kernel : decode cX1_roadsLead 56 = .ok (.ior, 1)) ?_
        obtain ⟨x11_, g12_, h⟩ := rv_lt_e h
        refine re_nI (pc := 57) g12_ ?_
        refine re_istoren (pc := 57) (lv1 := [(3, .int x11_), (0, .ref a0), (2, .int x2), (4, .int x4), (5, .int x5)]) (by decide +kernel : decode cX1_roadsLead 57 = .ok (.istore_n 3, 1)) rfl (by decide) rfl ?_
        obtain ⟨x13_, g14_, h⟩ := rv_lt_e h
        refine re_iinc (pc := 58) 4 x13_ (lv1 := [(5, .int x13_), (3, .int x11_), (0, .ref a0), (2, .int x2), (4, .int x4)]) (by decide +kernel : decode cX1_roadsLead 58 = .ok (.iinc 5 1, 3)) rfl g14_ (by decide) rfl ?_
        refine re_goto (pc := 61) 33 (by decide +kernel : decode cX1_roadsLead 61 = .ok (.goto (-28), 3)) (by decide) ?_
        refine re_sub [2, 3, 1, 4, 0] (lv1 := [(0, .ref a0), (2, .int x2), (3, .int x11_), (4, .int x4), (5, .int x13_)]) rfl ?_
        exact ih a0 x2 x11_ x4 x13_ _ h
noncomputable def cX1_roadsLead_70 (n : Nat) (S : rvS) (a0 : Nat) (x2 : Int32) (x3 : Int32) : Option Int32 :=
  (rv_ck S 0 a0).bind fun u1_ =>
  (fnX1_has n S a0 x2).bind fun x4_ =>
  if x4_ = 0 then (
    some (0 : Int32))
  else (
    (rv_gR S 0 a0 3).bind fun a7_ =>
    (rv_aI S 0 a7_ x2).bind fun x9_ =>
    if (((x3.toUInt32 >>> (x9_.toUInt32 &&& Int32.toUInt32 31)).toInt32) &&& (1 : Int32)) = 0 then (
      some (0 : Int32))
    else (
      some (1 : Int32)))
set_option maxRecDepth 20000 in
set_option maxHeartbeats 4000000 in
theorem eX1_roadsLead_70 (n : Nat) (S : rvS) (a0 : Nat) (x2 : Int32) (x3 : Int32) (r : Int32) (h : cX1_roadsLead_70 n S a0 x2 x3 = some r) : rv_Ev mX1_roadsLead 1 70 [(0, .ref a0), (2, .int x2), (3, .int x3)] [] S (some (.int r)) S := by
  unfold cX1_roadsLead_70 at h
  refine re_aloadn (pc := 70) 0 (by decide +kernel : decode cX1_roadsLead 70 = .ok (.aload_n 0, 1)) rfl ?_
  refine re_iloadn (pc := 71) 1 (by decide +kernel : decode cX1_roadsLead 71 = .ok (.iload_n 2, 1)) rfl ?_
  obtain ⟨u1_, g2_, h⟩ := rv_b_e h
  obtain ⟨x4_, g5_, h⟩ := rv_b_e h
  have m3_ := metX1_has n S a0 x2 _ g5_
  refine re_cV (pc := 72) [.int x2] m3_ (rv_okl.k ⟨rfl, rfl⟩) (rv_up.rf _ _) (by decide) (rv_ck_e g2_) ⟨by decide, rfl⟩ (Nat.le_of_ble_eq_true rfl) lVX1_52 rfl (by decide +kernel : decode cX1_roadsLead 72 = .ok (.invokevirtual 52, 3)) ?_
  rcases rv_if_e h with ⟨g6_, h⟩ | ⟨g6_, h⟩
  · refine re_if_eq_t (pc := 75) 95 (by decide +kernel : decode cX1_roadsLead 75 = .ok (.ifCond .eq 20, 3)) (by decide) g6_ ?_
    refine re_iconst (pc := 95) (0 : Int32) (by decide +kernel : decode cX1_roadsLead 95 = .ok (.iconst 0, 1)) (by decide) ?_
    cases h
    exact re_iret (fun ty hty => by cases hty; rfl) (by decide +kernel : decode cX1_roadsLead 96 = .ok (.ireturn, 1))
  · refine re_if_eq_f (pc := 75) 95 (by decide +kernel : decode cX1_roadsLead 75 = .ok (.ifCond .eq 20, 3)) (by decide) g6_ ?_
    refine re_iloadn (pc := 78) 2 (by decide +kernel : decode cX1_roadsLead 78 = .ok (.iload_n 3, 1)) rfl ?_
    refine re_aloadn (pc := 79) 0 (by decide +kernel : decode cX1_roadsLead 79 = .ok (.aload_n 0, 1)) rfl ?_
    obtain ⟨a7_, g8_, h⟩ := rv_b_e h
    refine re_gR (pc := 80) g8_ lfX1_11 rfl (by decide +kernel : decode cX1_roadsLead 80 = .ok (.getfield 11, 3)) ?_
    refine re_iloadn (pc := 83) 1 (by decide +kernel : decode cX1_roadsLead 83 = .ok (.iload_n 2, 1)) rfl ?_
    obtain ⟨x9_, g10_, h⟩ := rv_b_e h
    refine re_aI (pc := 84) g10_ (by decide +kernel : decode cX1_roadsLead 84 = .ok (.iaload, 1)) ?_
    refine re_iushr (pc := 85) (by decide +kernel : decode cX1_roadsLead 85 = .ok (.iushr, 1)) ?_
    refine re_iconst (pc := 86) (1 : Int32) (by decide +kernel : decode cX1_roadsLead 86 = .ok (.iconst 1, 1)) (by decide) ?_
    refine re_iand (pc := 87) (by decide +kernel : decode cX1_roadsLead 87 = .ok (.iand, 1)) ?_
    rcases rv_if_e h with ⟨g11_, h⟩ | ⟨g11_, h⟩
    · refine re_if_eq_t (pc := 88) 95 (by decide +kernel : decode cX1_roadsLead 88 = .ok (.ifCond .eq 7, 3)) (by decide) g11_ ?_
      refine re_iconst (pc := 95) (0 : Int32) (by decide +kernel : decode cX1_roadsLead 95 = .ok (.iconst 0, 1)) (by decide) ?_
      cases h
      exact re_iret (fun ty hty => by cases hty; rfl) (by decide +kernel : decode cX1_roadsLead 96 = .ok (.ireturn, 1))
    · refine re_if_eq_f (pc := 88) 95 (by decide +kernel : decode cX1_roadsLead 88 = .ok (.ifCond .eq 7, 3)) (by decide) g11_ ?_
      refine re_iconst (pc := 91) (1 : Int32) (by decide +kernel : decode cX1_roadsLead 91 = .ok (.iconst 1, 1)) (by decide) ?_
      refine re_goto (pc := 92) 96 (by decide +kernel : decode cX1_roadsLead 92 = .ok (.goto 4, 3)) (by decide) ?_
      cases h
      exact re_iret (fun ty hty => by cases hty; rfl) (by decide +kernel : decode cX1_roadsLead 96 = .ok (.ireturn, 1))
noncomputable def cX1_roadsLead_24 (n : Nat) (S : rvS) : Nat → Nat → Int32 → Int32 → Int32 → Option Int32
  | 0, _, _, _, _ => none
  | k + 1, a0, x2, x3, x4 =>
    if (4 : Int32) ≤ x4 then (
      cX1_roadsLead_70 n S a0 x2 x3)
    else (
      cX1_roadsLead_33 n (fun a0 x2 x3 x4 => cX1_roadsLead_24 n S k a0 x2 x3 x4) S n a0 x2 x3 x4 (0 : Int32))
set_option maxRecDepth 20000 in
set_option maxHeartbeats 4000000 in
theorem eX1_roadsLead_24 (n : Nat) (S : rvS) : ∀ (k : Nat) (a0 : Nat) (x2 : Int32) (x3 : Int32) (x4 : Int32) (r : Int32), cX1_roadsLead_24 n S k a0 x2 x3 x4 = some r → rv_Ev mX1_roadsLead 1 24 [(0, .ref a0), (2, .int x2), (3, .int x3), (4, .int x4)] [] S (some (.int r)) S := by
  intro k
  induction k with
  | zero => intro a0 x2 x3 x4 r h; exact absurd h (by simp [cX1_roadsLead_24])
  | succ k ih =>
    intro a0 x2 x3 x4 r h
    unfold cX1_roadsLead_24 at h
    refine re_iload (pc := 24) 3 (by decide +kernel : decode cX1_roadsLead 24 = .ok (.iload 4, 2)) rfl ?_
    refine re_iconst (pc := 26) (4 : Int32) (by decide +kernel : decode cX1_roadsLead 26 = .ok (.iconst 4, 1)) (by decide) ?_
    rcases rv_if_e h with ⟨g1_, h⟩ | ⟨g1_, h⟩
    · refine re_icmp_ge_t (pc := 27) 70 (by decide +kernel : decode cX1_roadsLead 27 = .ok (.if_icmp .ge 43, 3)) (by decide) g1_ ?_
      refine re_sub [0, 1, 2] (lv1 := [(0, .ref a0), (2, .int x2), (3, .int x3)]) rfl ?_
      exact eX1_roadsLead_70 n S a0 x2 x3 _ h
    · refine re_icmp_ge_f (pc := 27) 70 (by decide +kernel : decode cX1_roadsLead 27 = .ok (.if_icmp .ge 43, 3)) (by decide) g1_ ?_
      refine re_iconst (pc := 30) (0 : Int32) (by decide +kernel : decode cX1_roadsLead 30 = .ok (.iconst 0, 1)) (by decide) ?_
      refine re_istore (pc := 31) (lv1 := [(5, .int (0 : Int32)), (0, .ref a0), (2, .int x2), (3, .int x3), (4, .int x4)]) (by decide +kernel : decode cX1_roadsLead 31 = .ok (.istore 5, 2)) (by decide) rfl ?_
      refine re_sub [1, 2, 3, 4, 0] (lv1 := [(0, .ref a0), (2, .int x2), (3, .int x3), (4, .int x4), (5, .int (0 : Int32))]) rfl ?_
      exact eX1_roadsLead_33 n S (fun a0 x2 x3 x4 => cX1_roadsLead_24 n S k a0 x2 x3 x4) (fun a0 x2 x3 x4 _ h => ih a0 x2 x3 x4 _ h) n a0 x2 x3 x4 (0 : Int32) _ h
noncomputable def fnX1_roadsLead (n : Nat) (S : rvS) (a0 : Nat) (x1 : Int32) (x2 : Int32) : Option Int32 :=
  (rv_ck S 0 a0).bind fun u1_ =>
  (fnX1_has n S a0 x1).bind fun x4_ =>
  if x4_ = 0 then (
    cX1_roadsLead_24 n S n a0 x2 (0 : Int32) (1 : Int32))
  else (
    (rv_gR S 0 a0 3).bind fun a7_ =>
    (rv_aI S 0 a7_ x1).bind fun x9_ =>
    rv_lt ((1 : Int32) <<< (x9_ &&& 31)) fun x11_ =>
    cX1_roadsLead_24 n S n a0 x2 x11_ (1 : Int32))
set_option maxRecDepth 20000 in
set_option maxHeartbeats 4000000 in
theorem eX1_roadsLead_in (n : Nat) (S : rvS) (a0 : Nat) (x1 : Int32) (x2 : Int32) (r : Int32) (h : fnX1_roadsLead n S a0 x1 x2 = some r) : rv_Ev mX1_roadsLead 1 0 [(0, .ref a0), (1, .int x1), (2, .int x2)] [] S (some (.int r)) S := by
  unfold fnX1_roadsLead at h
  refine re_aloadn (pc := 0) 0 (by decide +kernel : decode cX1_roadsLead 0 = .ok (.aload_n 0, 1)) rfl ?_
  refine re_iloadn (pc := 1) 1 (by decide +kernel : decode cX1_roadsLead 1 = .ok (.iload_n 1, 1)) rfl ?_
  obtain ⟨u1_, g2_, h⟩ := rv_b_e h
  obtain ⟨x4_, g5_, h⟩ := rv_b_e h
  have m3_ := metX1_has n S a0 x1 _ g5_
  refine re_cV (pc := 2) [.int x1] m3_ (rv_okl.k ⟨rfl, rfl⟩) (rv_up.rf _ _) (by decide) (rv_ck_e g2_) ⟨by decide, rfl⟩ (Nat.le_of_ble_eq_true rfl) lVX1_52 rfl (by decide +kernel : decode cX1_roadsLead 2 = .ok (.invokevirtual 52, 3)) ?_
  rcases rv_if_e h with ⟨g6_, h⟩ | ⟨g6_, h⟩
  · refine re_if_eq_t (pc := 5) 19 (by decide +kernel : decode cX1_roadsLead 5 = .ok (.ifCond .eq 14, 3)) (by decide) g6_ ?_
    refine re_iconst (pc := 19) (0 : Int32) (by decide +kernel : decode cX1_roadsLead 19 = .ok (.iconst 0, 1)) (by decide) ?_
    refine re_istoren (pc := 20) (lv1 := [(3, .int (0 : Int32)), (0, .ref a0), (1, .int x1), (2, .int x2)]) (by decide +kernel : decode cX1_roadsLead 20 = .ok (.istore_n 3, 1)) rfl (by decide) rfl ?_
    refine re_iconst (pc := 21) (1 : Int32) (by decide +kernel : decode cX1_roadsLead 21 = .ok (.iconst 1, 1)) (by decide) ?_
    refine re_istore (pc := 22) (lv1 := [(4, .int (1 : Int32)), (3, .int (0 : Int32)), (0, .ref a0), (1, .int x1), (2, .int x2)]) (by decide +kernel : decode cX1_roadsLead 22 = .ok (.istore 4, 2)) (by decide) rfl ?_
    refine re_sub [2, 4, 1, 0] (lv1 := [(0, .ref a0), (2, .int x2), (3, .int (0 : Int32)), (4, .int (1 : Int32))]) rfl ?_
    exact eX1_roadsLead_24 n S n a0 x2 (0 : Int32) (1 : Int32) _ h
  · refine re_if_eq_f (pc := 5) 19 (by decide +kernel : decode cX1_roadsLead 5 = .ok (.ifCond .eq 14, 3)) (by decide) g6_ ?_
    refine re_iconst (pc := 8) (1 : Int32) (by decide +kernel : decode cX1_roadsLead 8 = .ok (.iconst 1, 1)) (by decide) ?_
    refine re_aloadn (pc := 9) 0 (by decide +kernel : decode cX1_roadsLead 9 = .ok (.aload_n 0, 1)) rfl ?_
    obtain ⟨a7_, g8_, h⟩ := rv_b_e h
    refine re_gR (pc := 10) g8_ lfX1_11 rfl (by decide +kernel : decode cX1_roadsLead 10 = .ok (.getfield 11, 3)) ?_
    refine re_iloadn (pc := 13) 1 (by decide +kernel : decode cX1_roadsLead 13 = .ok (.iload_n 1, 1)) rfl ?_
    obtain ⟨x9_, g10_, h⟩ := rv_b_e h
    refine re_aI (pc := 14) g10_ (by decide +kernel : decode cX1_roadsLead 14 = .ok (.iaload, 1)) ?_
    refine re_ishl (pc := 15) (by decide +kernel : decode cX1_roadsLead 15 = .ok (.ishl, 1)) ?_
    refine re_goto (pc := 16) 20 (by decide +kernel : decode cX1_roadsLead 16 = .ok (.goto 4, 3)) (by decide) ?_
    obtain ⟨x11_, g12_, h⟩ := rv_lt_e h
    refine re_nI (pc := 20) g12_ ?_
    refine re_istoren (pc := 20) (lv1 := [(3, .int x11_), (0, .ref a0), (1, .int x1), (2, .int x2)]) (by decide +kernel : decode cX1_roadsLead 20 = .ok (.istore_n 3, 1)) rfl (by decide) rfl ?_
    refine re_iconst (pc := 21) (1 : Int32) (by decide +kernel : decode cX1_roadsLead 21 = .ok (.iconst 1, 1)) (by decide) ?_
    refine re_istore (pc := 22) (lv1 := [(4, .int (1 : Int32)), (3, .int x11_), (0, .ref a0), (1, .int x1), (2, .int x2)]) (by decide +kernel : decode cX1_roadsLead 22 = .ok (.istore 4, 2)) (by decide) rfl ?_
    refine re_sub [2, 4, 1, 0] (lv1 := [(0, .ref a0), (2, .int x2), (3, .int x11_), (4, .int (1 : Int32))]) rfl ?_
    exact eX1_roadsLead_24 n S n a0 x2 x11_ (1 : Int32) _ h
theorem metX1_roadsLead (n : Nat) (S : rvS) (a0 : Nat) (x1 : Int32) (x2 : Int32) (r : Int32) (h : fnX1_roadsLead n S a0 x1 x2 = some r) : rv_Met yX1_roadsLead mX1_roadsLead 1 [.ref a0, .int x1, .int x2] S (some (.int r)) S := rv_Met.of ⟨by decide +kernel, rfl, (fun z => by first | rfl | cases z), rfl⟩ (Nat.le_of_ble_eq_true rfl) rfl (eX1_roadsLead_in n S a0 x1 x2 r h)
noncomputable def fnJ6_bitCount_0f7a4 (n : Nat) (S : rvS) (x0 : Int32) : Option Int32 :=
  rv_lt (x0 - (((x0.toUInt32 >>> ((1 : Int32).toUInt32 &&& Int32.toUInt32 31)).toInt32) &&& (1431655765 : Int32))) fun x1_ =>
  rv_lt ((x1_ &&& (858993459 : Int32)) + (((x1_.toUInt32 >>> ((2 : Int32).toUInt32 &&& Int32.toUInt32 31)).toInt32) &&& (858993459 : Int32))) fun x3_ =>
  rv_lt ((x3_ + ((x3_.toUInt32 >>> ((4 : Int32).toUInt32 &&& Int32.toUInt32 31)).toInt32)) &&& (252645135 : Int32)) fun x5_ =>
  rv_lt (x5_ + ((x5_.toUInt32 >>> ((8 : Int32).toUInt32 &&& Int32.toUInt32 31)).toInt32)) fun x7_ =>
  rv_lt (x7_ + ((x7_.toUInt32 >>> ((16 : Int32).toUInt32 &&& Int32.toUInt32 31)).toInt32)) fun x9_ =>
  some (x9_ &&& (63 : Int32))
set_option maxRecDepth 20000 in
set_option maxHeartbeats 4000000 in
theorem eJ6_bitCount_0f7a4_in (n : Nat) (S : rvS) (x0 : Int32) (r : Int32) (h : fnJ6_bitCount_0f7a4 n S x0 = some r) : rv_Ev mJ6_bitCount_0f7a4 0 0 [(0, .int x0)] [] S (some (.int r)) S := by
  unfold fnJ6_bitCount_0f7a4 at h
  refine re_iloadn (pc := 0) 0 (by decide +kernel : decode cJ6_bitCount_0f7a4 0 = .ok (.iload_n 0, 1)) rfl ?_
  refine re_iloadn (pc := 1) 0 (by decide +kernel : decode cJ6_bitCount_0f7a4 1 = .ok (.iload_n 0, 1)) rfl ?_
  refine re_iconst (pc := 2) (1 : Int32) (by decide +kernel : decode cJ6_bitCount_0f7a4 2 = .ok (.iconst 1, 1)) (by decide) ?_
  refine re_iushr (pc := 3) (by decide +kernel : decode cJ6_bitCount_0f7a4 3 = .ok (.iushr, 1)) ?_
  refine re_ldcw (pc := 4) (v := 1431655765) (rw5 63 (by decide +kernel) rfl) (by decide +kernel : decode cJ6_bitCount_0f7a4 4 = .ok (.ldc_w 265, 3)) ?_
  refine re_iand (pc := 7) (by decide +kernel : decode cJ6_bitCount_0f7a4 7 = .ok (.iand, 1)) ?_
  refine re_isub (pc := 8) (by decide +kernel : decode cJ6_bitCount_0f7a4 8 = .ok (.isub, 1)) ?_
  obtain ⟨x1_, g2_, h⟩ := rv_lt_e h
  refine re_nI (pc := 9) g2_ ?_
  refine re_istoren (pc := 9) (lv1 := [(0, .int x1_)]) (by decide +kernel : decode cJ6_bitCount_0f7a4 9 = .ok (.istore_n 0, 1)) rfl (by decide) rfl ?_
  refine re_iloadn (pc := 10) 0 (by decide +kernel : decode cJ6_bitCount_0f7a4 10 = .ok (.iload_n 0, 1)) rfl ?_
  refine re_ldcw (pc := 11) (v := 858993459) (rw5 64 (by decide +kernel) rfl) (by decide +kernel : decode cJ6_bitCount_0f7a4 11 = .ok (.ldc_w 266, 3)) ?_
  refine re_iand (pc := 14) (by decide +kernel : decode cJ6_bitCount_0f7a4 14 = .ok (.iand, 1)) ?_
  refine re_iloadn (pc := 15) 0 (by decide +kernel : decode cJ6_bitCount_0f7a4 15 = .ok (.iload_n 0, 1)) rfl ?_
  refine re_iconst (pc := 16) (2 : Int32) (by decide +kernel : decode cJ6_bitCount_0f7a4 16 = .ok (.iconst 2, 1)) (by decide) ?_
  refine re_iushr (pc := 17) (by decide +kernel : decode cJ6_bitCount_0f7a4 17 = .ok (.iushr, 1)) ?_
  refine re_ldcw (pc := 18) (v := 858993459) (rw5 64 (by decide +kernel) rfl) (by decide +kernel : decode cJ6_bitCount_0f7a4 18 = .ok (.ldc_w 266, 3)) ?_
  refine re_iand (pc := 21) (by decide +kernel : decode cJ6_bitCount_0f7a4 21 = .ok (.iand, 1)) ?_
  refine re_iadd (pc := 22) (by decide +kernel : decode cJ6_bitCount_0f7a4 22 = .ok (.iadd, 1)) ?_
  obtain ⟨x3_, g4_, h⟩ := rv_lt_e h
  refine re_nI (pc := 23) g4_ ?_
  refine re_istoren (pc := 23) (lv1 := [(0, .int x3_)]) (by decide +kernel : decode cJ6_bitCount_0f7a4 23 = .ok (.istore_n 0, 1)) rfl (by decide) rfl ?_
  refine re_iloadn (pc := 24) 0 (by decide +kernel : decode cJ6_bitCount_0f7a4 24 = .ok (.iload_n 0, 1)) rfl ?_
  refine re_iloadn (pc := 25) 0 (by decide +kernel : decode cJ6_bitCount_0f7a4 25 = .ok (.iload_n 0, 1)) rfl ?_
  refine re_iconst (pc := 26) (4 : Int32) (by decide +kernel : decode cJ6_bitCount_0f7a4 26 = .ok (.iconst 4, 1)) (by decide) ?_
  refine re_iushr (pc := 27) (by decide +kernel : decode cJ6_bitCount_0f7a4 27 = .ok (.iushr, 1)) ?_
  refine re_iadd (pc := 28) (by decide +kernel : decode cJ6_bitCount_0f7a4 28 = .ok (.iadd, 1)) ?_
  refine re_ldcw (pc := 29) (v := 252645135) (rw5 65 (by decide +kernel) rfl) (by decide +kernel : decode cJ6_bitCount_0f7a4 29 = .ok (.ldc_w 267, 3)) ?_
  refine re_iand (pc := 32) (by decide +kernel : decode cJ6_bitCount_0f7a4 32 = .ok (.iand, 1)) ?_
  obtain ⟨x5_, g6_, h⟩ := rv_lt_e h
  refine re_nI (pc := 33) g6_ ?_
  refine re_istoren (pc := 33) (lv1 := [(0, .int x5_)]) (by decide +kernel : decode cJ6_bitCount_0f7a4 33 = .ok (.istore_n 0, 1)) rfl (by decide) rfl ?_
  refine re_iloadn (pc := 34) 0 (by decide +kernel : decode cJ6_bitCount_0f7a4 34 = .ok (.iload_n 0, 1)) rfl ?_
  refine re_iloadn (pc := 35) 0 (by decide +kernel : decode cJ6_bitCount_0f7a4 35 = .ok (.iload_n 0, 1)) rfl ?_
  refine re_bipush (pc := 36) (8 : Int32) (by decide +kernel : decode cJ6_bitCount_0f7a4 36 = .ok (.bipush 8, 2)) (by decide) ?_
  refine re_iushr (pc := 38) (by decide +kernel : decode cJ6_bitCount_0f7a4 38 = .ok (.iushr, 1)) ?_
  refine re_iadd (pc := 39) (by decide +kernel : decode cJ6_bitCount_0f7a4 39 = .ok (.iadd, 1)) ?_
  obtain ⟨x7_, g8_, h⟩ := rv_lt_e h
  refine re_nI (pc := 40) g8_ ?_
  refine re_istoren (pc := 40) (lv1 := [(0, .int x7_)]) (by decide +kernel : decode cJ6_bitCount_0f7a4 40 = .ok (.istore_n 0, 1)) rfl (by decide) rfl ?_
  refine re_iloadn (pc := 41) 0 (by decide +kernel : decode cJ6_bitCount_0f7a4 41 = .ok (.iload_n 0, 1)) rfl ?_
  refine re_iloadn (pc := 42) 0 (by decide +kernel : decode cJ6_bitCount_0f7a4 42 = .ok (.iload_n 0, 1)) rfl ?_
  refine re_bipush (pc := 43) (16 : Int32) (by decide +kernel : decode cJ6_bitCount_0f7a4 43 = .ok (.bipush 16, 2)) (by decide) ?_
  refine re_iushr (pc := 45) (by decide +kernel : decode cJ6_bitCount_0f7a4 45 = .ok (.iushr, 1)) ?_
  refine re_iadd (pc := 46) (by decide +kernel : decode cJ6_bitCount_0f7a4 46 = .ok (.iadd, 1)) ?_
  obtain ⟨x9_, g10_, h⟩ := rv_lt_e h
  refine re_nI (pc := 47) g10_ ?_
  refine re_istoren (pc := 47) (lv1 := [(0, .int x9_)]) (by decide +kernel : decode cJ6_bitCount_0f7a4 47 = .ok (.istore_n 0, 1)) rfl (by decide) rfl ?_
  refine re_iloadn (pc := 48) 0 (by decide +kernel : decode cJ6_bitCount_0f7a4 48 = .ok (.iload_n 0, 1)) rfl ?_
  refine re_bipush (pc := 49) (63 : Int32) (by decide +kernel : decode cJ6_bitCount_0f7a4 49 = .ok (.bipush 63, 2)) (by decide) ?_
  refine re_iand (pc := 51) (by decide +kernel : decode cJ6_bitCount_0f7a4 51 = .ok (.iand, 1)) ?_
  cases h
  exact re_iret (fun ty hty => by cases hty; rfl) (by decide +kernel : decode cJ6_bitCount_0f7a4 52 = .ok (.ireturn, 1))
theorem metJ6_bitCount_0f7a4 (n : Nat) (S : rvS) (x0 : Int32) (r : Int32) (h : fnJ6_bitCount_0f7a4 n S x0 = some r) : rv_Met yJ6_bitCount_0f7a4 mJ6_bitCount_0f7a4 0 [.int x0] S (some (.int r)) S := rv_Met.of ⟨by decide +kernel, rfl, (fun z => by first | rfl | cases z), rfl⟩ (Nat.le_of_ble_eq_true rfl) rfl (eJ6_bitCount_0f7a4_in n S x0 r h)
noncomputable def cX1_roads_4 (n : Nat) (S : rvS) : Nat → Nat → Int32 → Int32 → Option Int32
  | 0, _, _, _ => none
  | k + 1, a0, x1, x2 =>
    if (4 : Int32) ≤ x2 then (
      some (x1 >>> ((1 : Int32) &&& 31)))
    else (
      (rv_gR S 0 a0 7).bind fun a2_ =>
      (rv_aI S 0 a2_ x2).bind fun x4_ =>
      (fnJ6_bitCount_0f7a4 n S x4_).bind fun x7_ =>
      rv_lt (x1 + (x7_ - (1 : Int32))) fun x9_ =>
      rv_lt (x2 + (1)) fun x11_ =>
      cX1_roads_4 n S k a0 x9_ x11_)
set_option maxRecDepth 20000 in
set_option maxHeartbeats 4000000 in
theorem eX1_roads_4 (n : Nat) (S : rvS) : ∀ (k : Nat) (a0 : Nat) (x1 : Int32) (x2 : Int32) (r : Int32), cX1_roads_4 n S k a0 x1 x2 = some r → rv_Ev mX1_roads 1 4 [(0, .ref a0), (1, .int x1), (2, .int x2)] [] S (some (.int r)) S := by
  intro k
  induction k with
  | zero => intro a0 x1 x2 r h; exact absurd h (by simp [cX1_roads_4])
  | succ k ih =>
    intro a0 x1 x2 r h
    unfold cX1_roads_4 at h
    refine re_iloadn (pc := 4) 2 (by decide +kernel : decode cX1_roads 4 = .ok (.iload_n 2, 1)) rfl ?_
    refine re_iconst (pc := 5) (4 : Int32) (by decide +kernel : decode cX1_roads 5 = .ok (.iconst 4, 1)) (by decide) ?_
    rcases rv_if_e h with ⟨g1_, h⟩ | ⟨g1_, h⟩
    · refine re_icmp_ge_t (pc := 6) 29 (by decide +kernel : decode cX1_roads 6 = .ok (.if_icmp .ge 23, 3)) (by decide) g1_ ?_
      refine re_iloadn (pc := 29) 1 (by decide +kernel : decode cX1_roads 29 = .ok (.iload_n 1, 1)) rfl ?_
      refine re_iconst (pc := 30) (1 : Int32) (by decide +kernel : decode cX1_roads 30 = .ok (.iconst 1, 1)) (by decide) ?_
      refine re_ishr (pc := 31) (by decide +kernel : decode cX1_roads 31 = .ok (.ishr, 1)) ?_
      cases h
      exact re_iret (fun ty hty => by cases hty; rfl) (by decide +kernel : decode cX1_roads 32 = .ok (.ireturn, 1))
    · refine re_icmp_ge_f (pc := 6) 29 (by decide +kernel : decode cX1_roads 6 = .ok (.if_icmp .ge 23, 3)) (by decide) g1_ ?_
      refine re_iloadn (pc := 9) 1 (by decide +kernel : decode cX1_roads 9 = .ok (.iload_n 1, 1)) rfl ?_
      refine re_aloadn (pc := 10) 0 (by decide +kernel : decode cX1_roads 10 = .ok (.aload_n 0, 1)) rfl ?_
      obtain ⟨a2_, g3_, h⟩ := rv_b_e h
      refine re_gR (pc := 11) g3_ lfX1_25 rfl (by decide +kernel : decode cX1_roads 11 = .ok (.getfield 25, 3)) ?_
      refine re_iloadn (pc := 14) 2 (by decide +kernel : decode cX1_roads 14 = .ok (.iload_n 2, 1)) rfl ?_
      obtain ⟨x4_, g5_, h⟩ := rv_b_e h
      refine re_aI (pc := 15) g5_ (by decide +kernel : decode cX1_roads 15 = .ok (.iaload, 1)) ?_
      obtain ⟨x7_, g8_, h⟩ := rv_b_e h
      have m6_ := metJ6_bitCount_0f7a4 n S x4_ _ g8_
      refine re_cS (pc := 16) [.int x4_] m6_ (rv_okl.k ⟨rfl, rfl⟩) (rv_up.rf _ _) (by decide) (Nat.le_of_ble_eq_true rfl) lSX1_58 rfl (by decide +kernel : decode cX1_roads 16 = .ok (.invokestatic 58, 3)) ?_
      refine re_iconst (pc := 19) (1 : Int32) (by decide +kernel : decode cX1_roads 19 = .ok (.iconst 1, 1)) (by decide) ?_
      refine re_isub (pc := 20) (by decide +kernel : decode cX1_roads 20 = .ok (.isub, 1)) ?_
      refine re_iadd (pc := 21) (by decide +kernel : decode cX1_roads 21 = .ok (.iadd, 1)) ?_
      obtain ⟨x9_, g10_, h⟩ := rv_lt_e h
      refine re_nI (pc := 22) g10_ ?_
      refine re_istoren (pc := 22) (lv1 := [(1, .int x9_), (0, .ref a0), (2, .int x2)]) (by decide +kernel : decode cX1_roads 22 = .ok (.istore_n 1, 1)) rfl (by decide) rfl ?_
      obtain ⟨x11_, g12_, h⟩ := rv_lt_e h
      refine re_iinc (pc := 23) 2 x11_ (lv1 := [(2, .int x11_), (1, .int x9_), (0, .ref a0)]) (by decide +kernel : decode cX1_roads 23 = .ok (.iinc 2 1, 3)) rfl g12_ (by decide) rfl ?_
      refine re_goto (pc := 26) 4 (by decide +kernel : decode cX1_roads 26 = .ok (.goto (-22), 3)) (by decide) ?_
      refine re_sub [2, 1, 0] (lv1 := [(0, .ref a0), (1, .int x9_), (2, .int x11_)]) rfl ?_
      exact ih a0 x9_ x11_ _ h
noncomputable def fnX1_roads (n : Nat) (S : rvS) (a0 : Nat) : Option Int32 :=
  cX1_roads_4 n S n a0 (0 : Int32) (0 : Int32)
set_option maxRecDepth 20000 in
set_option maxHeartbeats 4000000 in
theorem eX1_roads_in (n : Nat) (S : rvS) (a0 : Nat) (r : Int32) (h : fnX1_roads n S a0 = some r) : rv_Ev mX1_roads 1 0 [(0, .ref a0)] [] S (some (.int r)) S := by
  unfold fnX1_roads at h
  refine re_iconst (pc := 0) (0 : Int32) (by decide +kernel : decode cX1_roads 0 = .ok (.iconst 0, 1)) (by decide) ?_
  refine re_istoren (pc := 1) (lv1 := [(1, .int (0 : Int32)), (0, .ref a0)]) (by decide +kernel : decode cX1_roads 1 = .ok (.istore_n 1, 1)) rfl (by decide) rfl ?_
  refine re_iconst (pc := 2) (0 : Int32) (by decide +kernel : decode cX1_roads 2 = .ok (.iconst 0, 1)) (by decide) ?_
  refine re_istoren (pc := 3) (lv1 := [(2, .int (0 : Int32)), (1, .int (0 : Int32)), (0, .ref a0)]) (by decide +kernel : decode cX1_roads 3 = .ok (.istore_n 2, 1)) rfl (by decide) rfl ?_
  refine re_sub [2, 1, 0] (lv1 := [(0, .ref a0), (1, .int (0 : Int32)), (2, .int (0 : Int32))]) rfl ?_
  exact eX1_roads_4 n S n a0 (0 : Int32) (0 : Int32) _ h
theorem metX1_roads (n : Nat) (S : rvS) (a0 : Nat) (r : Int32) (h : fnX1_roads n S a0 = some r) : rv_Met yX1_roads mX1_roads 1 [.ref a0] S (some (.int r)) S := rv_Met.of ⟨by decide +kernel, rfl, (fun z => by first | rfl | cases z), rfl⟩ (Nat.le_of_ble_eq_true rfl) rfl (eX1_roads_in n S a0 r h)
noncomputable def fnX1_add (n : Nat) (S : rvS) (a0 : Nat) (x1 : Int64) (x3 : Int32) : Option (Int32 × rvS) :=
  (rv_gI S 0 a0 0).bind fun x1_ =>
  if x1_ < (24 : Int32) then (
    (rv_gI S 0 a0 0).bind fun x4_ =>
    (rv_gI S 0 a0 0).bind fun x6_ =>
    (rv_pI S 0 a0 0 (x6_ + (1 : Int32))).bind fun S8_ =>
    (rv_gR S8_ 0 a0 6).bind fun a10_ =>
    (rv_uL S8_ a10_ x4_ x1).bind fun S12_ =>
    (rv_gR S12_ 0 a0 3).bind fun a14_ =>
    (rv_uI S12_ a14_ x4_ x3).bind fun S16_ =>
    (rv_gR S16_ 0 a0 4).bind fun a18_ =>
    (rv_uI S16_ a18_ x4_ ((1 : Int32) <<< (x4_ &&& 31))).bind fun S20_ =>
    (rv_gR S20_ 0 a0 5).bind fun a22_ =>
    (rv_uI S20_ a22_ x4_ (0 : Int32)).bind fun S24_ =>
    (rv_ck S24_ 0 a0).bind fun u26_ =>
    (fnX1_refresh n S24_ a0).bind fun S29_ =>
    some (x4_, S29_))
  else (
    some ((-1 : Int32), S))
set_option maxRecDepth 20000 in
set_option maxHeartbeats 4000000 in
theorem eX1_add_in (n : Nat) (S : rvS) (a0 : Nat) (x1 : Int64) (x3 : Int32) (r : Int32) (S' : rvS) (h : fnX1_add n S a0 x1 x3 = some (r, S')) : rv_Ev mX1_add 3 0 [(0, .ref a0), (1, .long x1), (3, .int x3)] [] S (some (.int r)) S' := by
  unfold fnX1_add at h
  refine re_aloadn (pc := 0) 0 (by decide +kernel : decode cX1_add 0 = .ok (.aload_n 0, 1)) rfl ?_
  obtain ⟨x1_, g2_, h⟩ := rv_b_e h
  refine re_gI (pc := 1) g2_ lfX1_31 rfl (by decide +kernel : decode cX1_add 1 = .ok (.getfield 31, 3)) ?_
  refine re_bipush (pc := 4) (24 : Int32) (by decide +kernel : decode cX1_add 4 = .ok (.bipush 24, 2)) (by decide) ?_
  rcases rv_if_e h with ⟨g3_, h⟩ | ⟨g3_, h⟩
  · refine re_icmp_lt_t (pc := 6) 11 (by decide +kernel : decode cX1_add 6 = .ok (.if_icmp .lt 5, 3)) (by decide) g3_ ?_
    refine re_aloadn (pc := 11) 0 (by decide +kernel : decode cX1_add 11 = .ok (.aload_n 0, 1)) rfl ?_
    obtain ⟨x4_, g5_, h⟩ := rv_b_e h
    refine re_gI (pc := 12) g5_ lfX1_31 rfl (by decide +kernel : decode cX1_add 12 = .ok (.getfield 31, 3)) ?_
    refine re_istore (pc := 15) (lv1 := [(4, .int x4_), (0, .ref a0), (1, .long x1), (3, .int x3)]) (by decide +kernel : decode cX1_add 15 = .ok (.istore 4, 2)) (by decide) rfl ?_
    refine re_aloadn (pc := 17) 1 (by decide +kernel : decode cX1_add 17 = .ok (.aload_n 0, 1)) rfl ?_
    refine re_dup (pc := 18) (by decide +kernel : decode cX1_add 18 = .ok (.dup, 1)) rfl ?_
    obtain ⟨x6_, g7_, h⟩ := rv_b_e h
    refine re_gI (pc := 19) g7_ lfX1_31 rfl (by decide +kernel : decode cX1_add 19 = .ok (.getfield 31, 3)) ?_
    refine re_iconst (pc := 22) (1 : Int32) (by decide +kernel : decode cX1_add 22 = .ok (.iconst 1, 1)) (by decide) ?_
    refine re_iadd (pc := 23) (by decide +kernel : decode cX1_add 23 = .ok (.iadd, 1)) ?_
    obtain ⟨S8_, g9_, h⟩ := rv_b_e h
    refine re_pI (pc := 24) g9_ lfX1_31 rfl rfl rfl rfl (by decide +kernel : decode cX1_add 24 = .ok (.putfield 31, 3)) ?_
    refine re_aloadn (pc := 27) 1 (by decide +kernel : decode cX1_add 27 = .ok (.aload_n 0, 1)) rfl ?_
    obtain ⟨a10_, g11_, h⟩ := rv_b_e h
    refine re_gR (pc := 28) g11_ lfX1_21 rfl (by decide +kernel : decode cX1_add 28 = .ok (.getfield 21, 3)) ?_
    refine re_iload (pc := 31) 0 (by decide +kernel : decode cX1_add 31 = .ok (.iload 4, 2)) rfl ?_
    refine re_lloadn (pc := 33) 2 (by decide +kernel : decode cX1_add 33 = .ok (.lload_n 1, 1)) rfl ?_
    obtain ⟨S12_, g13_, h⟩ := rv_b_e h
    refine re_uL (pc := 34) g13_ (by decide +kernel : decode cX1_add 34 = .ok (.lastore, 1)) ?_
    refine re_aloadn (pc := 35) 1 (by decide +kernel : decode cX1_add 35 = .ok (.aload_n 0, 1)) rfl ?_
    obtain ⟨a14_, g15_, h⟩ := rv_b_e h
    refine re_gR (pc := 36) g15_ lfX1_11 rfl (by decide +kernel : decode cX1_add 36 = .ok (.getfield 11, 3)) ?_
    refine re_iload (pc := 39) 0 (by decide +kernel : decode cX1_add 39 = .ok (.iload 4, 2)) rfl ?_
    refine re_iloadn (pc := 41) 3 (by decide +kernel : decode cX1_add 41 = .ok (.iload_n 3, 1)) rfl ?_
    obtain ⟨S16_, g17_, h⟩ := rv_b_e h
    refine re_uI (pc := 42) g17_ (by decide +kernel : decode cX1_add 42 = .ok (.iastore, 1)) ?_
    refine re_aloadn (pc := 43) 1 (by decide +kernel : decode cX1_add 43 = .ok (.aload_n 0, 1)) rfl ?_
    obtain ⟨a18_, g19_, h⟩ := rv_b_e h
    refine re_gR (pc := 44) g19_ lfX1_15 rfl (by decide +kernel : decode cX1_add 44 = .ok (.getfield 15, 3)) ?_
    refine re_iload (pc := 47) 0 (by decide +kernel : decode cX1_add 47 = .ok (.iload 4, 2)) rfl ?_
    refine re_iconst (pc := 49) (1 : Int32) (by decide +kernel : decode cX1_add 49 = .ok (.iconst 1, 1)) (by decide) ?_
    refine re_iload (pc := 50) 0 (by decide +kernel : decode cX1_add 50 = .ok (.iload 4, 2)) rfl ?_
    refine re_ishl (pc := 52) (by decide +kernel : decode cX1_add 52 = .ok (.ishl, 1)) ?_
    obtain ⟨S20_, g21_, h⟩ := rv_b_e h
    refine re_uI (pc := 53) g21_ (by decide +kernel : decode cX1_add 53 = .ok (.iastore, 1)) ?_
    refine re_aloadn (pc := 54) 1 (by decide +kernel : decode cX1_add 54 = .ok (.aload_n 0, 1)) rfl ?_
    obtain ⟨a22_, g23_, h⟩ := rv_b_e h
    refine re_gR (pc := 55) g23_ lfX1_18 rfl (by decide +kernel : decode cX1_add 55 = .ok (.getfield 18, 3)) ?_
    refine re_iload (pc := 58) 0 (by decide +kernel : decode cX1_add 58 = .ok (.iload 4, 2)) rfl ?_
    refine re_iconst (pc := 60) (0 : Int32) (by decide +kernel : decode cX1_add 60 = .ok (.iconst 0, 1)) (by decide) ?_
    obtain ⟨S24_, g25_, h⟩ := rv_b_e h
    refine re_uI (pc := 61) g25_ (by decide +kernel : decode cX1_add 61 = .ok (.iastore, 1)) ?_
    refine re_aloadn (pc := 62) 1 (by decide +kernel : decode cX1_add 62 = .ok (.aload_n 0, 1)) rfl ?_
    obtain ⟨u26_, g27_, h⟩ := rv_b_e h
    obtain ⟨S29_, g30_, h⟩ := rv_b_e h
    have m28_ := metX1_refresh n S24_ a0 _ g30_
    have z31_ : rv_same S24_ S29_ := m28_.sh rfl
    refine re_cV (pc := 63) [] m28_ (rv_okl.k z31_) (rv_up.sh z31_) (by decide) (rv_ck_e g27_) ⟨by decide, rfl⟩ (Nat.le_of_ble_eq_true rfl) lVX1_41 rfl (by decide +kernel : decode cX1_add 63 = .ok (.invokevirtual 41, 3)) ?_
    refine re_iload (pc := 66) 0 (by decide +kernel : decode cX1_add 66 = .ok (.iload 4, 2)) rfl ?_
    cases h
    exact re_iret (fun ty hty => by cases hty; rfl) (by decide +kernel : decode cX1_add 68 = .ok (.ireturn, 1))
  · refine re_icmp_lt_f (pc := 6) 11 (by decide +kernel : decode cX1_add 6 = .ok (.if_icmp .lt 5, 3)) (by decide) g3_ ?_
    refine re_iconst (pc := 9) (-1 : Int32) (by decide +kernel : decode cX1_add 9 = .ok (.iconst (-1), 1)) (by decide) ?_
    cases h
    exact re_iret (fun ty hty => by cases hty; rfl) (by decide +kernel : decode cX1_add 10 = .ok (.ireturn, 1))
theorem metX1_add (n : Nat) (S : rvS) (a0 : Nat) (x1 : Int64) (x3 : Int32) (r : Int32) (S' : rvS) (h : fnX1_add n S a0 x1 x3 = some (r, S')) : rv_Met yX1_add mX1_add 3 [.ref a0, .long x1, .int x3] S (some (.int r)) S' := rv_Met.of ⟨by decide +kernel, rfl, (fun z => by first | rfl | cases z), rfl⟩ (Nat.le_of_ble_eq_true rfl) rfl (eX1_add_in n S a0 x1 x3 r S' h)
noncomputable def fnX1_settleIn (n : Nat) (S : rvS) (a0 : Nat) (x1 : Int32) (x2 : Int32) : Option rvS :=
  (rv_ck S 0 a0).bind fun u1_ =>
  (fnX1_has n S a0 x1).bind fun x4_ =>
  if x4_ = 0 then (
    some S)
  else (
    (rv_gR S 0 a0 3).bind fun a7_ =>
    (rv_uI S a7_ x1 x2).bind fun S9_ =>
    (rv_ck S9_ 0 a0).bind fun u11_ =>
    (fnX1_refresh n S9_ a0).bind fun S14_ =>
    some S14_)
set_option maxRecDepth 20000 in
set_option maxHeartbeats 4000000 in
theorem eX1_settleIn_in (n : Nat) (S : rvS) (a0 : Nat) (x1 : Int32) (x2 : Int32) (S' : rvS) (h : fnX1_settleIn n S a0 x1 x2 = some S') : rv_Ev mX1_settleIn 3 0 [(0, .ref a0), (1, .int x1), (2, .int x2)] [] S none S' := by
  unfold fnX1_settleIn at h
  refine re_aloadn (pc := 0) 0 (by decide +kernel : decode cX1_settleIn 0 = .ok (.aload_n 0, 1)) rfl ?_
  refine re_iloadn (pc := 1) 1 (by decide +kernel : decode cX1_settleIn 1 = .ok (.iload_n 1, 1)) rfl ?_
  obtain ⟨u1_, g2_, h⟩ := rv_b_e h
  obtain ⟨x4_, g5_, h⟩ := rv_b_e h
  have m3_ := metX1_has n S a0 x1 _ g5_
  refine re_cV (pc := 2) [.int x1] m3_ (rv_okl.k ⟨rfl, rfl⟩) (rv_up.rf _ _) (by decide) (rv_ck_e g2_) ⟨by decide, rfl⟩ (Nat.le_of_ble_eq_true rfl) lVX1_52 rfl (by decide +kernel : decode cX1_settleIn 2 = .ok (.invokevirtual 52, 3)) ?_
  rcases rv_if_e h with ⟨g6_, h⟩ | ⟨g6_, h⟩
  · refine re_if_eq_t (pc := 5) 19 (by decide +kernel : decode cX1_settleIn 5 = .ok (.ifCond .eq 14, 3)) (by decide) g6_ ?_
    cases h
    exact re_vret (by decide +kernel : decode cX1_settleIn 19 = .ok (.return_, 1))
  · refine re_if_eq_f (pc := 5) 19 (by decide +kernel : decode cX1_settleIn 5 = .ok (.ifCond .eq 14, 3)) (by decide) g6_ ?_
    refine re_aloadn (pc := 8) 0 (by decide +kernel : decode cX1_settleIn 8 = .ok (.aload_n 0, 1)) rfl ?_
    obtain ⟨a7_, g8_, h⟩ := rv_b_e h
    refine re_gR (pc := 9) g8_ lfX1_11 rfl (by decide +kernel : decode cX1_settleIn 9 = .ok (.getfield 11, 3)) ?_
    refine re_iloadn (pc := 12) 1 (by decide +kernel : decode cX1_settleIn 12 = .ok (.iload_n 1, 1)) rfl ?_
    refine re_iloadn (pc := 13) 2 (by decide +kernel : decode cX1_settleIn 13 = .ok (.iload_n 2, 1)) rfl ?_
    obtain ⟨S9_, g10_, h⟩ := rv_b_e h
    refine re_uI (pc := 14) g10_ (by decide +kernel : decode cX1_settleIn 14 = .ok (.iastore, 1)) ?_
    refine re_aloadn (pc := 15) 0 (by decide +kernel : decode cX1_settleIn 15 = .ok (.aload_n 0, 1)) rfl ?_
    obtain ⟨u11_, g12_, h⟩ := rv_b_e h
    obtain ⟨S14_, g15_, h⟩ := rv_b_e h
    have m13_ := metX1_refresh n S9_ a0 _ g15_
    have z16_ : rv_same S9_ S14_ := m13_.sh rfl
    refine re_cV (pc := 16) [] m13_ (rv_okl.k z16_) (rv_up.sh z16_) (by decide) (rv_ck_e g12_) ⟨by decide, rfl⟩ (Nat.le_of_ble_eq_true rfl) lVX1_41 rfl (by decide +kernel : decode cX1_settleIn 16 = .ok (.invokevirtual 41, 3)) ?_
    cases h
    exact re_vret (by decide +kernel : decode cX1_settleIn 19 = .ok (.return_, 1))
theorem metX1_settleIn (n : Nat) (S : rvS) (a0 : Nat) (x1 : Int32) (x2 : Int32) (S' : rvS) (h : fnX1_settleIn n S a0 x1 x2 = some S') : rv_Met yX1_settleIn mX1_settleIn 3 [.ref a0, .int x1, .int x2] S none S' := rv_Met.of ⟨by decide +kernel, rfl, (fun z => by first | rfl | cases z), rfl⟩ (Nat.le_of_ble_eq_true rfl) rfl (eX1_settleIn_in n S a0 x1 x2 S' h)
noncomputable def cX1_find_2 (n : Nat) (S : rvS) : Nat → Nat → Int64 → Int32 → Option Int32
  | 0, _, _, _ => none
  | k + 1, a0, x1, x3 =>
    (rv_gI S 0 a0 0).bind fun x1_ =>
    if x1_ ≤ x3 then (
      some (-1 : Int32))
    else (
      (rv_gR S 0 a0 6).bind fun a4_ =>
      (rv_aL S a4_ x3).bind fun x6_ =>
      if (lg_cmp x6_ x1) = 0 then (
        some x3)
      else (
        rv_lt (x3 + (1)) fun x9_ =>
        cX1_find_2 n S k a0 x1 x9_))
set_option maxRecDepth 20000 in
set_option maxHeartbeats 4000000 in
theorem eX1_find_2 (n : Nat) (S : rvS) : ∀ (k : Nat) (a0 : Nat) (x1 : Int64) (x3 : Int32) (r : Int32), cX1_find_2 n S k a0 x1 x3 = some r → rv_Ev mX1_find 0 2 [(0, .ref a0), (1, .long x1), (3, .int x3)] [] S (some (.int r)) S := by
  intro k
  induction k with
  | zero => intro a0 x1 x3 r h; exact absurd h (by simp [cX1_find_2])
  | succ k ih =>
    intro a0 x1 x3 r h
    unfold cX1_find_2 at h
    refine re_iloadn (pc := 2) 2 (by decide +kernel : decode cX1_find 2 = .ok (.iload_n 3, 1)) rfl ?_
    refine re_aloadn (pc := 3) 0 (by decide +kernel : decode cX1_find 3 = .ok (.aload_n 0, 1)) rfl ?_
    obtain ⟨x1_, g2_, h⟩ := rv_b_e h
    refine re_gI (pc := 4) g2_ lfX1_31 rfl (by decide +kernel : decode cX1_find 4 = .ok (.getfield 31, 3)) ?_
    rcases rv_if_e h with ⟨g3_, h⟩ | ⟨g3_, h⟩
    · refine re_icmp_ge_t (pc := 7) 29 (by decide +kernel : decode cX1_find 7 = .ok (.if_icmp .ge 22, 3)) (by decide) g3_ ?_
      refine re_iconst (pc := 29) (-1 : Int32) (by decide +kernel : decode cX1_find 29 = .ok (.iconst (-1), 1)) (by decide) ?_
      cases h
      exact re_iret (fun ty hty => by cases hty; rfl) (by decide +kernel : decode cX1_find 30 = .ok (.ireturn, 1))
    · refine re_icmp_ge_f (pc := 7) 29 (by decide +kernel : decode cX1_find 7 = .ok (.if_icmp .ge 22, 3)) (by decide) g3_ ?_
      refine re_aloadn (pc := 10) 0 (by decide +kernel : decode cX1_find 10 = .ok (.aload_n 0, 1)) rfl ?_
      obtain ⟨a4_, g5_, h⟩ := rv_b_e h
      refine re_gR (pc := 11) g5_ lfX1_21 rfl (by decide +kernel : decode cX1_find 11 = .ok (.getfield 21, 3)) ?_
      refine re_iloadn (pc := 14) 2 (by decide +kernel : decode cX1_find 14 = .ok (.iload_n 3, 1)) rfl ?_
      obtain ⟨x6_, g7_, h⟩ := rv_b_e h
      refine re_aL (pc := 15) g7_ (by decide +kernel : decode cX1_find 15 = .ok (.laload, 1)) ?_
      refine re_lloadn (pc := 16) 1 (by decide +kernel : decode cX1_find 16 = .ok (.lload_n 1, 1)) rfl ?_
      refine re_lcmp (pc := 17) (by decide +kernel : decode cX1_find 17 = .ok (.lcmp, 1)) ?_
      rcases rv_if_e h with ⟨g8_, h⟩ | ⟨g8_, h⟩
      · refine re_if_ne_f (pc := 18) 23 (by decide +kernel : decode cX1_find 18 = .ok (.ifCond .ne 5, 3)) (by decide) g8_ ?_
        refine re_iloadn (pc := 21) 2 (by decide +kernel : decode cX1_find 21 = .ok (.iload_n 3, 1)) rfl ?_
        cases h
        exact re_iret (fun ty hty => by cases hty; rfl) (by decide +kernel : decode cX1_find 22 = .ok (.ireturn, 1))
      · refine re_if_ne_t (pc := 18) 23 (by decide +kernel : decode cX1_find 18 = .ok (.ifCond .ne 5, 3)) (by decide) g8_ ?_
        obtain ⟨x9_, g10_, h⟩ := rv_lt_e h
        refine re_iinc (pc := 23) 2 x9_ (lv1 := [(3, .int x9_), (0, .ref a0), (1, .long x1)]) (by decide +kernel : decode cX1_find 23 = .ok (.iinc 3 1, 3)) rfl g10_ (by decide) rfl ?_
        refine re_goto (pc := 26) 2 (by decide +kernel : decode cX1_find 26 = .ok (.goto (-24), 3)) (by decide) ?_
        refine re_sub [1, 2, 0] (lv1 := [(0, .ref a0), (1, .long x1), (3, .int x9_)]) rfl ?_
        exact ih a0 x1 x9_ _ h
noncomputable def fnX1_find (n : Nat) (S : rvS) (a0 : Nat) (x1 : Int64) : Option Int32 :=
  cX1_find_2 n S n a0 x1 (0 : Int32)
set_option maxRecDepth 20000 in
set_option maxHeartbeats 4000000 in
theorem eX1_find_in (n : Nat) (S : rvS) (a0 : Nat) (x1 : Int64) (r : Int32) (h : fnX1_find n S a0 x1 = some r) : rv_Ev mX1_find 0 0 [(0, .ref a0), (1, .long x1)] [] S (some (.int r)) S := by
  unfold fnX1_find at h
  refine re_iconst (pc := 0) (0 : Int32) (by decide +kernel : decode cX1_find 0 = .ok (.iconst 0, 1)) (by decide) ?_
  refine re_istoren (pc := 1) (lv1 := [(3, .int (0 : Int32)), (0, .ref a0), (1, .long x1)]) (by decide +kernel : decode cX1_find 1 = .ok (.istore_n 3, 1)) rfl (by decide) rfl ?_
  refine re_sub [1, 2, 0] (lv1 := [(0, .ref a0), (1, .long x1), (3, .int (0 : Int32))]) rfl ?_
  exact eX1_find_2 n S n a0 x1 (0 : Int32) _ h
theorem metX1_find (n : Nat) (S : rvS) (a0 : Nat) (x1 : Int64) (r : Int32) (h : fnX1_find n S a0 x1 = some r) : rv_Met yX1_find mX1_find 0 [.ref a0, .long x1] S (some (.int r)) S := rv_Met.of ⟨by decide +kernel, rfl, (fun z => by first | rfl | cases z), rfl⟩ (Nat.le_of_ble_eq_true rfl) rfl (eX1_find_in n S a0 x1 r h)
noncomputable def fnX1_villageOf (n : Nat) (S : rvS) (a0 : Nat) (x1 : Int32) : Option Int32 :=
  (rv_ck S 0 a0).bind fun u1_ =>
  (fnX1_has n S a0 x1).bind fun x4_ =>
  if x4_ = 0 then (
    some (-1 : Int32))
  else (
    (rv_gR S 0 a0 3).bind fun a7_ =>
    (rv_aI S 0 a7_ x1).bind fun x9_ =>
    some x9_)
set_option maxRecDepth 20000 in
set_option maxHeartbeats 4000000 in
theorem eX1_villageOf_in (n : Nat) (S : rvS) (a0 : Nat) (x1 : Int32) (r : Int32) (h : fnX1_villageOf n S a0 x1 = some r) : rv_Ev mX1_villageOf 1 0 [(0, .ref a0), (1, .int x1)] [] S (some (.int r)) S := by
  unfold fnX1_villageOf at h
  refine re_aloadn (pc := 0) 0 (by decide +kernel : decode cX1_villageOf 0 = .ok (.aload_n 0, 1)) rfl ?_
  refine re_iloadn (pc := 1) 1 (by decide +kernel : decode cX1_villageOf 1 = .ok (.iload_n 1, 1)) rfl ?_
  obtain ⟨u1_, g2_, h⟩ := rv_b_e h
  obtain ⟨x4_, g5_, h⟩ := rv_b_e h
  have m3_ := metX1_has n S a0 x1 _ g5_
  refine re_cV (pc := 2) [.int x1] m3_ (rv_okl.k ⟨rfl, rfl⟩) (rv_up.rf _ _) (by decide) (rv_ck_e g2_) ⟨by decide, rfl⟩ (Nat.le_of_ble_eq_true rfl) lVX1_52 rfl (by decide +kernel : decode cX1_villageOf 2 = .ok (.invokevirtual 52, 3)) ?_
  rcases rv_if_e h with ⟨g6_, h⟩ | ⟨g6_, h⟩
  · refine re_if_eq_t (pc := 5) 17 (by decide +kernel : decode cX1_villageOf 5 = .ok (.ifCond .eq 12, 3)) (by decide) g6_ ?_
    refine re_iconst (pc := 17) (-1 : Int32) (by decide +kernel : decode cX1_villageOf 17 = .ok (.iconst (-1), 1)) (by decide) ?_
    cases h
    exact re_iret (fun ty hty => by cases hty; rfl) (by decide +kernel : decode cX1_villageOf 18 = .ok (.ireturn, 1))
  · refine re_if_eq_f (pc := 5) 17 (by decide +kernel : decode cX1_villageOf 5 = .ok (.ifCond .eq 12, 3)) (by decide) g6_ ?_
    refine re_aloadn (pc := 8) 0 (by decide +kernel : decode cX1_villageOf 8 = .ok (.aload_n 0, 1)) rfl ?_
    obtain ⟨a7_, g8_, h⟩ := rv_b_e h
    refine re_gR (pc := 9) g8_ lfX1_11 rfl (by decide +kernel : decode cX1_villageOf 9 = .ok (.getfield 11, 3)) ?_
    refine re_iloadn (pc := 12) 1 (by decide +kernel : decode cX1_villageOf 12 = .ok (.iload_n 1, 1)) rfl ?_
    obtain ⟨x9_, g10_, h⟩ := rv_b_e h
    refine re_aI (pc := 13) g10_ (by decide +kernel : decode cX1_villageOf 13 = .ok (.iaload, 1)) ?_
    refine re_goto (pc := 14) 18 (by decide +kernel : decode cX1_villageOf 14 = .ok (.goto 4, 3)) (by decide) ?_
    cases h
    exact re_iret (fun ty hty => by cases hty; rfl) (by decide +kernel : decode cX1_villageOf 18 = .ok (.ireturn, 1))
theorem metX1_villageOf (n : Nat) (S : rvS) (a0 : Nat) (x1 : Int32) (r : Int32) (h : fnX1_villageOf n S a0 x1 = some r) : rv_Met yX1_villageOf mX1_villageOf 1 [.ref a0, .int x1] S (some (.int r)) S := rv_Met.of ⟨by decide +kernel, rfl, (fun z => by first | rfl | cases z), rfl⟩ (Nat.le_of_ble_eq_true rfl) rfl (eX1_villageOf_in n S a0 x1 r h)
noncomputable def fnX1_earn (n : Nat) (S : rvS) (a0 : Nat) (x1 : Int32) (x2 : Int32) : Option rvS :=
  (rv_ck S 0 a0).bind fun u1_ =>
  (fnX1_has n S a0 x1).bind fun x4_ =>
  if x4_ = 0 then (
    some S)
  else (
    (rv_gR S 0 a0 5).bind fun a7_ =>
    (rv_aI S 0 a7_ x1).bind fun x9_ =>
    (rv_uI S a7_ x1 (x9_ + x2)).bind fun S11_ =>
    some S11_)
set_option maxRecDepth 20000 in
set_option maxHeartbeats 4000000 in
theorem eX1_earn_in (n : Nat) (S : rvS) (a0 : Nat) (x1 : Int32) (x2 : Int32) (S' : rvS) (h : fnX1_earn n S a0 x1 x2 = some S') : rv_Ev mX1_earn 1 0 [(0, .ref a0), (1, .int x1), (2, .int x2)] [] S none S' := by
  unfold fnX1_earn at h
  refine re_aloadn (pc := 0) 0 (by decide +kernel : decode cX1_earn 0 = .ok (.aload_n 0, 1)) rfl ?_
  refine re_iloadn (pc := 1) 1 (by decide +kernel : decode cX1_earn 1 = .ok (.iload_n 1, 1)) rfl ?_
  obtain ⟨u1_, g2_, h⟩ := rv_b_e h
  obtain ⟨x4_, g5_, h⟩ := rv_b_e h
  have m3_ := metX1_has n S a0 x1 _ g5_
  refine re_cV (pc := 2) [.int x1] m3_ (rv_okl.k ⟨rfl, rfl⟩) (rv_up.rf _ _) (by decide) (rv_ck_e g2_) ⟨by decide, rfl⟩ (Nat.le_of_ble_eq_true rfl) lVX1_52 rfl (by decide +kernel : decode cX1_earn 2 = .ok (.invokevirtual 52, 3)) ?_
  rcases rv_if_e h with ⟨g6_, h⟩ | ⟨g6_, h⟩
  · refine re_if_eq_t (pc := 5) 18 (by decide +kernel : decode cX1_earn 5 = .ok (.ifCond .eq 13, 3)) (by decide) g6_ ?_
    cases h
    exact re_vret (by decide +kernel : decode cX1_earn 18 = .ok (.return_, 1))
  · refine re_if_eq_f (pc := 5) 18 (by decide +kernel : decode cX1_earn 5 = .ok (.ifCond .eq 13, 3)) (by decide) g6_ ?_
    refine re_aloadn (pc := 8) 0 (by decide +kernel : decode cX1_earn 8 = .ok (.aload_n 0, 1)) rfl ?_
    obtain ⟨a7_, g8_, h⟩ := rv_b_e h
    refine re_gR (pc := 9) g8_ lfX1_18 rfl (by decide +kernel : decode cX1_earn 9 = .ok (.getfield 18, 3)) ?_
    refine re_iloadn (pc := 12) 1 (by decide +kernel : decode cX1_earn 12 = .ok (.iload_n 1, 1)) rfl ?_
    refine re_dup2 (pc := 13) (by decide +kernel : decode cX1_earn 13 = .ok (.dup2, 1)) rfl rfl ?_
    obtain ⟨x9_, g10_, h⟩ := rv_b_e h
    refine re_aI (pc := 14) g10_ (by decide +kernel : decode cX1_earn 14 = .ok (.iaload, 1)) ?_
    refine re_iloadn (pc := 15) 2 (by decide +kernel : decode cX1_earn 15 = .ok (.iload_n 2, 1)) rfl ?_
    refine re_iadd (pc := 16) (by decide +kernel : decode cX1_earn 16 = .ok (.iadd, 1)) ?_
    obtain ⟨S11_, g12_, h⟩ := rv_b_e h
    refine re_uI (pc := 17) g12_ (by decide +kernel : decode cX1_earn 17 = .ok (.iastore, 1)) ?_
    cases h
    exact re_vret (by decide +kernel : decode cX1_earn 18 = .ok (.return_, 1))
theorem metX1_earn (n : Nat) (S : rvS) (a0 : Nat) (x1 : Int32) (x2 : Int32) (S' : rvS) (h : fnX1_earn n S a0 x1 x2 = some S') : rv_Met yX1_earn mX1_earn 1 [.ref a0, .int x1, .int x2] S none S' := rv_Met.of ⟨by decide +kernel, rfl, (fun z => by first | rfl | cases z), rfl⟩ (Nat.le_of_ble_eq_true rfl) rfl (eX1_earn_in n S a0 x1 x2 S' h)
noncomputable def fnX1_houseOf (n : Nat) (S : rvS) (a0 : Nat) (x1 : Int32) : Option Int32 :=
  (rv_ck S 0 a0).bind fun u1_ =>
  (fnX1_has n S a0 x1).bind fun x4_ =>
  if x4_ = 0 then (
    some (0 : Int32))
  else (
    (rv_gR S 0 a0 4).bind fun a7_ =>
    (rv_aI S 0 a7_ x1).bind fun x9_ =>
    some x9_)
set_option maxRecDepth 20000 in
set_option maxHeartbeats 4000000 in
theorem eX1_houseOf_in (n : Nat) (S : rvS) (a0 : Nat) (x1 : Int32) (r : Int32) (h : fnX1_houseOf n S a0 x1 = some r) : rv_Ev mX1_houseOf 1 0 [(0, .ref a0), (1, .int x1)] [] S (some (.int r)) S := by
  unfold fnX1_houseOf at h
  refine re_aloadn (pc := 0) 0 (by decide +kernel : decode cX1_houseOf 0 = .ok (.aload_n 0, 1)) rfl ?_
  refine re_iloadn (pc := 1) 1 (by decide +kernel : decode cX1_houseOf 1 = .ok (.iload_n 1, 1)) rfl ?_
  obtain ⟨u1_, g2_, h⟩ := rv_b_e h
  obtain ⟨x4_, g5_, h⟩ := rv_b_e h
  have m3_ := metX1_has n S a0 x1 _ g5_
  refine re_cV (pc := 2) [.int x1] m3_ (rv_okl.k ⟨rfl, rfl⟩) (rv_up.rf _ _) (by decide) (rv_ck_e g2_) ⟨by decide, rfl⟩ (Nat.le_of_ble_eq_true rfl) lVX1_52 rfl (by decide +kernel : decode cX1_houseOf 2 = .ok (.invokevirtual 52, 3)) ?_
  rcases rv_if_e h with ⟨g6_, h⟩ | ⟨g6_, h⟩
  · refine re_if_eq_t (pc := 5) 17 (by decide +kernel : decode cX1_houseOf 5 = .ok (.ifCond .eq 12, 3)) (by decide) g6_ ?_
    refine re_iconst (pc := 17) (0 : Int32) (by decide +kernel : decode cX1_houseOf 17 = .ok (.iconst 0, 1)) (by decide) ?_
    cases h
    exact re_iret (fun ty hty => by cases hty; rfl) (by decide +kernel : decode cX1_houseOf 18 = .ok (.ireturn, 1))
  · refine re_if_eq_f (pc := 5) 17 (by decide +kernel : decode cX1_houseOf 5 = .ok (.ifCond .eq 12, 3)) (by decide) g6_ ?_
    refine re_aloadn (pc := 8) 0 (by decide +kernel : decode cX1_houseOf 8 = .ok (.aload_n 0, 1)) rfl ?_
    obtain ⟨a7_, g8_, h⟩ := rv_b_e h
    refine re_gR (pc := 9) g8_ lfX1_15 rfl (by decide +kernel : decode cX1_houseOf 9 = .ok (.getfield 15, 3)) ?_
    refine re_iloadn (pc := 12) 1 (by decide +kernel : decode cX1_houseOf 12 = .ok (.iload_n 1, 1)) rfl ?_
    obtain ⟨x9_, g10_, h⟩ := rv_b_e h
    refine re_aI (pc := 13) g10_ (by decide +kernel : decode cX1_houseOf 13 = .ok (.iaload, 1)) ?_
    refine re_goto (pc := 14) 18 (by decide +kernel : decode cX1_houseOf 14 = .ok (.goto 4, 3)) (by decide) ?_
    cases h
    exact re_iret (fun ty hty => by cases hty; rfl) (by decide +kernel : decode cX1_houseOf 18 = .ok (.ireturn, 1))
theorem metX1_houseOf (n : Nat) (S : rvS) (a0 : Nat) (x1 : Int32) (r : Int32) (h : fnX1_houseOf n S a0 x1 = some r) : rv_Met yX1_houseOf mX1_houseOf 1 [.ref a0, .int x1] S (some (.int r)) S := rv_Met.of ⟨by decide +kernel, rfl, (fun z => by first | rfl | cases z), rfl⟩ (Nat.le_of_ble_eq_true rfl) rfl (eX1_houseOf_in n S a0 x1 r h)
noncomputable def fnX1_marry (n : Nat) (S : rvS) (a0 : Nat) (x1 : Int32) (x2 : Int32) : Option rvS :=
  (rv_ck S 0 a0).bind fun u1_ =>
  (fnX1_has n S a0 x1).bind fun x4_ =>
  if x4_ = 0 then (
    some S)
  else (
    (rv_ck S 0 a0).bind fun u7_ =>
    (fnX1_has n S a0 x2).bind fun x10_ =>
    if x10_ = 0 then (
      some S)
    else (
      (rv_gR S 0 a0 4).bind fun a13_ =>
      (rv_aI S 0 a13_ x1).bind fun x15_ =>
      (rv_uI S a13_ x1 (x15_ ||| ((1 : Int32) <<< (x2 &&& 31)))).bind fun S17_ =>
      (rv_gR S17_ 0 a0 4).bind fun a19_ =>
      (rv_aI S17_ 0 a19_ x2).bind fun x21_ =>
      (rv_uI S17_ a19_ x2 (x21_ ||| ((1 : Int32) <<< (x1 &&& 31)))).bind fun S23_ =>
      some S23_))
set_option maxRecDepth 20000 in
set_option maxHeartbeats 4000000 in
theorem eX1_marry_in (n : Nat) (S : rvS) (a0 : Nat) (x1 : Int32) (x2 : Int32) (S' : rvS) (h : fnX1_marry n S a0 x1 x2 = some S') : rv_Ev mX1_marry 1 0 [(0, .ref a0), (1, .int x1), (2, .int x2)] [] S none S' := by
  unfold fnX1_marry at h
  refine re_aloadn (pc := 0) 0 (by decide +kernel : decode cX1_marry 0 = .ok (.aload_n 0, 1)) rfl ?_
  refine re_iloadn (pc := 1) 1 (by decide +kernel : decode cX1_marry 1 = .ok (.iload_n 1, 1)) rfl ?_
  obtain ⟨u1_, g2_, h⟩ := rv_b_e h
  obtain ⟨x4_, g5_, h⟩ := rv_b_e h
  have m3_ := metX1_has n S a0 x1 _ g5_
  refine re_cV (pc := 2) [.int x1] m3_ (rv_okl.k ⟨rfl, rfl⟩) (rv_up.rf _ _) (by decide) (rv_ck_e g2_) ⟨by decide, rfl⟩ (Nat.le_of_ble_eq_true rfl) lVX1_52 rfl (by decide +kernel : decode cX1_marry 2 = .ok (.invokevirtual 52, 3)) ?_
  rcases rv_if_e h with ⟨g6_, h⟩ | ⟨g6_, h⟩
  · refine re_if_eq_t (pc := 5) 40 (by decide +kernel : decode cX1_marry 5 = .ok (.ifCond .eq 35, 3)) (by decide) g6_ ?_
    cases h
    exact re_vret (by decide +kernel : decode cX1_marry 40 = .ok (.return_, 1))
  · refine re_if_eq_f (pc := 5) 40 (by decide +kernel : decode cX1_marry 5 = .ok (.ifCond .eq 35, 3)) (by decide) g6_ ?_
    refine re_aloadn (pc := 8) 0 (by decide +kernel : decode cX1_marry 8 = .ok (.aload_n 0, 1)) rfl ?_
    refine re_iloadn (pc := 9) 2 (by decide +kernel : decode cX1_marry 9 = .ok (.iload_n 2, 1)) rfl ?_
    obtain ⟨u7_, g8_, h⟩ := rv_b_e h
    obtain ⟨x10_, g11_, h⟩ := rv_b_e h
    have m9_ := metX1_has n S a0 x2 _ g11_
    refine re_cV (pc := 10) [.int x2] m9_ (rv_okl.k ⟨rfl, rfl⟩) (rv_up.rf _ _) (by decide) (rv_ck_e g8_) ⟨by decide, rfl⟩ (Nat.le_of_ble_eq_true rfl) lVX1_52 rfl (by decide +kernel : decode cX1_marry 10 = .ok (.invokevirtual 52, 3)) ?_
    rcases rv_if_e h with ⟨g12_, h⟩ | ⟨g12_, h⟩
    · refine re_if_eq_t (pc := 13) 40 (by decide +kernel : decode cX1_marry 13 = .ok (.ifCond .eq 27, 3)) (by decide) g12_ ?_
      cases h
      exact re_vret (by decide +kernel : decode cX1_marry 40 = .ok (.return_, 1))
    · refine re_if_eq_f (pc := 13) 40 (by decide +kernel : decode cX1_marry 13 = .ok (.ifCond .eq 27, 3)) (by decide) g12_ ?_
      refine re_aloadn (pc := 16) 0 (by decide +kernel : decode cX1_marry 16 = .ok (.aload_n 0, 1)) rfl ?_
      obtain ⟨a13_, g14_, h⟩ := rv_b_e h
      refine re_gR (pc := 17) g14_ lfX1_15 rfl (by decide +kernel : decode cX1_marry 17 = .ok (.getfield 15, 3)) ?_
      refine re_iloadn (pc := 20) 1 (by decide +kernel : decode cX1_marry 20 = .ok (.iload_n 1, 1)) rfl ?_
      refine re_dup2 (pc := 21) (by decide +kernel : decode cX1_marry 21 = .ok (.dup2, 1)) rfl rfl ?_
      obtain ⟨x15_, g16_, h⟩ := rv_b_e h
      refine re_aI (pc := 22) g16_ (by decide +kernel : decode cX1_marry 22 = .ok (.iaload, 1)) ?_
      refine re_iconst (pc := 23) (1 : Int32) (by decide +kernel : decode cX1_marry 23 = .ok (.iconst 1, 1)) (by decide) ?_
      refine re_iloadn (pc := 24) 2 (by decide +kernel : decode cX1_marry 24 = .ok (.iload_n 2, 1)) rfl ?_
      refine re_ishl (pc := 25) (by decide +kernel : decode cX1_marry 25 = .ok (.ishl, 1)) ?_
      refine re_ior (pc := 26) (by decide +kernel : decode cX1_marry 26 = .ok (.ior, 1)) ?_
      obtain ⟨S17_, g18_, h⟩ := rv_b_e h
      refine re_uI (pc := 27) g18_ (by decide +kernel : decode cX1_marry 27 = .ok (.iastore, 1)) ?_
      refine re_aloadn (pc := 28) 0 (by decide +kernel : decode cX1_marry 28 = .ok (.aload_n 0, 1)) rfl ?_
      obtain ⟨a19_, g20_, h⟩ := rv_b_e h
      refine re_gR (pc := 29) g20_ lfX1_15 rfl (by decide +kernel : decode cX1_marry 29 = .ok (.getfield 15, 3)) ?_
      refine re_iloadn (pc := 32) 2 (by decide +kernel : decode cX1_marry 32 = .ok (.iload_n 2, 1)) rfl ?_
      refine re_dup2 (pc := 33) (by decide +kernel : decode cX1_marry 33 = .ok (.dup2, 1)) rfl rfl ?_
      obtain ⟨x21_, g22_, h⟩ := rv_b_e h
      refine re_aI (pc := 34) g22_ (by decide +kernel : decode cX1_marry 34 = .ok (.iaload, 1)) ?_
      refine re_iconst (pc := 35) (1 : Int32) (by decide +kernel : decode cX1_marry 35 = .ok (.iconst 1, 1)) (by decide) ?_
      refine re_iloadn (pc := 36) 1 (by decide +kernel : decode cX1_marry 36 = .ok (.iload_n 1, 1)) rfl ?_
      refine re_ishl (pc := 37) (by decide +kernel : decode cX1_marry 37 = .ok (.ishl, 1)) ?_
      refine re_ior (pc := 38) (by decide +kernel : decode cX1_marry 38 = .ok (.ior, 1)) ?_
      obtain ⟨S23_, g24_, h⟩ := rv_b_e h
      refine re_uI (pc := 39) g24_ (by decide +kernel : decode cX1_marry 39 = .ok (.iastore, 1)) ?_
      cases h
      exact re_vret (by decide +kernel : decode cX1_marry 40 = .ok (.return_, 1))
theorem metX1_marry (n : Nat) (S : rvS) (a0 : Nat) (x1 : Int32) (x2 : Int32) (S' : rvS) (h : fnX1_marry n S a0 x1 x2 = some S') : rv_Met yX1_marry mX1_marry 1 [.ref a0, .int x1, .int x2] S none S' := rv_Met.of ⟨by decide +kernel, rfl, (fun z => by first | rfl | cases z), rfl⟩ (Nat.le_of_ble_eq_true rfl) rfl (eX1_marry_in n S a0 x1 x2 S' h)
noncomputable def fnX1_die (n : Nat) (S : rvS) (a0 : Nat) (x1 : Int32) : Option rvS :=
  (rv_gI S 0 a0 1).bind fun x1_ =>
  (rv_pI S 0 a0 1 (x1_ ||| ((1 : Int32) <<< (x1 &&& 31)))).bind fun S3_ =>
  (rv_ck S3_ 0 a0).bind fun u5_ =>
  (fnX1_refresh n S3_ a0).bind fun S8_ =>
  some S8_
set_option maxRecDepth 20000 in
set_option maxHeartbeats 4000000 in
theorem eX1_die_in (n : Nat) (S : rvS) (a0 : Nat) (x1 : Int32) (S' : rvS) (h : fnX1_die n S a0 x1 = some S') : rv_Ev mX1_die 3 0 [(0, .ref a0), (1, .int x1)] [] S none S' := by
  unfold fnX1_die at h
  refine re_aloadn (pc := 0) 0 (by decide +kernel : decode cX1_die 0 = .ok (.aload_n 0, 1)) rfl ?_
  refine re_dup (pc := 1) (by decide +kernel : decode cX1_die 1 = .ok (.dup, 1)) rfl ?_
  obtain ⟨x1_, g2_, h⟩ := rv_b_e h
  refine re_gI (pc := 2) g2_ lfX1_35 rfl (by decide +kernel : decode cX1_die 2 = .ok (.getfield 35, 3)) ?_
  refine re_iconst (pc := 5) (1 : Int32) (by decide +kernel : decode cX1_die 5 = .ok (.iconst 1, 1)) (by decide) ?_
  refine re_iloadn (pc := 6) 1 (by decide +kernel : decode cX1_die 6 = .ok (.iload_n 1, 1)) rfl ?_
  refine re_ishl (pc := 7) (by decide +kernel : decode cX1_die 7 = .ok (.ishl, 1)) ?_
  refine re_ior (pc := 8) (by decide +kernel : decode cX1_die 8 = .ok (.ior, 1)) ?_
  obtain ⟨S3_, g4_, h⟩ := rv_b_e h
  refine re_pI (pc := 9) g4_ lfX1_35 rfl rfl rfl rfl (by decide +kernel : decode cX1_die 9 = .ok (.putfield 35, 3)) ?_
  refine re_aloadn (pc := 12) 0 (by decide +kernel : decode cX1_die 12 = .ok (.aload_n 0, 1)) rfl ?_
  obtain ⟨u5_, g6_, h⟩ := rv_b_e h
  obtain ⟨S8_, g9_, h⟩ := rv_b_e h
  have m7_ := metX1_refresh n S3_ a0 _ g9_
  have z10_ : rv_same S3_ S8_ := m7_.sh rfl
  refine re_cV (pc := 13) [] m7_ (rv_okl.k z10_) (rv_up.sh z10_) (by decide) (rv_ck_e g6_) ⟨by decide, rfl⟩ (Nat.le_of_ble_eq_true rfl) lVX1_41 rfl (by decide +kernel : decode cX1_die 13 = .ok (.invokevirtual 41, 3)) ?_
  cases h
  exact re_vret (by decide +kernel : decode cX1_die 16 = .ok (.return_, 1))
theorem metX1_die (n : Nat) (S : rvS) (a0 : Nat) (x1 : Int32) (S' : rvS) (h : fnX1_die n S a0 x1 = some S') : rv_Met yX1_die mX1_die 3 [.ref a0, .int x1] S none S' := rv_Met.of ⟨by decide +kernel, rfl, (fun z => by first | rfl | cases z), rfl⟩ (Nat.le_of_ble_eq_true rfl) rfl (eX1_die_in n S a0 x1 S' h)
noncomputable def cX1_housesOn_4 (n : Nat) (S : rvS) : Nat → Nat → Int32 → Int32 → Option Int32
  | 0, _, _, _ => none
  | k + 1, a0, x2, x3 =>
    if x3 = 0 then (
      some x2)
    else (
      rv_lt ((x3 &&& (31 : Int32)) - (1 : Int32)) fun x2_ =>
      if x2_ < 0 then (
        rv_lt ((x3.toUInt32 >>> ((5 : Int32).toUInt32 &&& Int32.toUInt32 31)).toInt32) fun x5_ =>
        cX1_housesOn_4 n S k a0 x2 x5_)
      else (
        (rv_gI S 0 a0 0).bind fun x7_ =>
        if x7_ ≤ x2_ then (
          rv_lt ((x3.toUInt32 >>> ((5 : Int32).toUInt32 &&& Int32.toUInt32 31)).toInt32) fun x10_ =>
          cX1_housesOn_4 n S k a0 x2 x10_)
        else (
          (rv_gR S 0 a0 4).bind fun a12_ =>
          (rv_aI S 0 a12_ x2_).bind fun x14_ =>
          rv_lt (x2 ||| x14_) fun x16_ =>
          rv_lt ((x3.toUInt32 >>> ((5 : Int32).toUInt32 &&& Int32.toUInt32 31)).toInt32) fun x18_ =>
          cX1_housesOn_4 n S k a0 x16_ x18_)))
set_option maxRecDepth 20000 in
set_option maxHeartbeats 4000000 in
theorem eX1_housesOn_4 (n : Nat) (S : rvS) : ∀ (k : Nat) (a0 : Nat) (x2 : Int32) (x3 : Int32) (r : Int32), cX1_housesOn_4 n S k a0 x2 x3 = some r → rv_Ev mX1_housesOn 0 4 [(0, .ref a0), (2, .int x2), (3, .int x3)] [] S (some (.int r)) S := by
  intro k
  induction k with
  | zero => intro a0 x2 x3 r h; exact absurd h (by simp [cX1_housesOn_4])
  | succ k ih =>
    intro a0 x2 x3 r h
    unfold cX1_housesOn_4 at h
    refine re_iloadn (pc := 4) 2 (by decide +kernel : decode cX1_housesOn 4 = .ok (.iload_n 3, 1)) rfl ?_
    rcases rv_if_e h with ⟨g1_, h⟩ | ⟨g1_, h⟩
    · refine re_if_eq_t (pc := 5) 47 (by decide +kernel : decode cX1_housesOn 5 = .ok (.ifCond .eq 42, 3)) (by decide) g1_ ?_
      refine re_iloadn (pc := 47) 1 (by decide +kernel : decode cX1_housesOn 47 = .ok (.iload_n 2, 1)) rfl ?_
      cases h
      exact re_iret (fun ty hty => by cases hty; rfl) (by decide +kernel : decode cX1_housesOn 48 = .ok (.ireturn, 1))
    · refine re_if_eq_f (pc := 5) 47 (by decide +kernel : decode cX1_housesOn 5 = .ok (.ifCond .eq 42, 3)) (by decide) g1_ ?_
      refine re_iloadn (pc := 8) 2 (by decide +kernel : decode cX1_housesOn 8 = .ok (.iload_n 3, 1)) rfl ?_
      refine re_bipush (pc := 9) (31 : Int32) (by decide +kernel : decode cX1_housesOn 9 = .ok (.bipush 31, 2)) (by decide) ?_
      refine re_iand (pc := 11) (by decide +kernel : decode cX1_housesOn 11 = .ok (.iand, 1)) ?_
      refine re_iconst (pc := 12) (1 : Int32) (by decide +kernel : decode cX1_housesOn 12 = .ok (.iconst 1, 1)) (by decide) ?_
      refine re_isub (pc := 13) (by decide +kernel : decode cX1_housesOn 13 = .ok (.isub, 1)) ?_
      obtain ⟨x2_, g3_, h⟩ := rv_lt_e h
      refine re_nI (pc := 14) g3_ ?_
      refine re_istore (pc := 14) (lv1 := [(4, .int x2_), (0, .ref a0), (2, .int x2), (3, .int x3)]) (by decide +kernel : decode cX1_housesOn 14 = .ok (.istore 4, 2)) (by decide) rfl ?_
      refine re_iload (pc := 16) 0 (by decide +kernel : decode cX1_housesOn 16 = .ok (.iload 4, 2)) rfl ?_
      rcases rv_if_e h with ⟨g4_, h⟩ | ⟨g4_, h⟩
      · refine re_if_lt_t (pc := 18) 40 (by decide +kernel : decode cX1_housesOn 18 = .ok (.ifCond .lt 22, 3)) (by decide) g4_ ?_
        refine re_iloadn (pc := 40) 3 (by decide +kernel : decode cX1_housesOn 40 = .ok (.iload_n 3, 1)) rfl ?_
        refine re_iconst (pc := 41) (5 : Int32) (by decide +kernel : decode cX1_housesOn 41 = .ok (.iconst 5, 1)) (by decide) ?_
        refine re_iushr (pc := 42) (by decide +kernel : decode cX1_housesOn 42 = .ok (.iushr, 1)) ?_
        obtain ⟨x5_, g6_, h⟩ := rv_lt_e h
        refine re_nI (pc := 43) g6_ ?_
        refine re_istoren (pc := 43) (lv1 := [(3, .int x5_), (4, .int x2_), (0, .ref a0), (2, .int x2)]) (by decide +kernel : decode cX1_housesOn 43 = .ok (.istore_n 3, 1)) rfl (by decide) rfl ?_
        refine re_goto (pc := 44) 4 (by decide +kernel : decode cX1_housesOn 44 = .ok (.goto (-40), 3)) (by decide) ?_
        refine re_sub [2, 3, 0] (lv1 := [(0, .ref a0), (2, .int x2), (3, .int x5_)]) rfl ?_
        exact ih a0 x2 x5_ _ h
      · refine re_if_lt_f (pc := 18) 40 (by decide +kernel : decode cX1_housesOn 18 = .ok (.ifCond .lt 22, 3)) (by decide) g4_ ?_
        refine re_iload (pc := 21) 0 (by decide +kernel : decode cX1_housesOn 21 = .ok (.iload 4, 2)) rfl ?_
        refine re_aloadn (pc := 23) 1 (by decide +kernel : decode cX1_housesOn 23 = .ok (.aload_n 0, 1)) rfl ?_
        obtain ⟨x7_, g8_, h⟩ := rv_b_e h
        refine re_gI (pc := 24) g8_ lfX1_31 rfl (by decide +kernel : decode cX1_housesOn 24 = .ok (.getfield 31, 3)) ?_
        rcases rv_if_e h with ⟨g9_, h⟩ | ⟨g9_, h⟩
        · refine re_icmp_ge_t (pc := 27) 40 (by decide +kernel : decode cX1_housesOn 27 = .ok (.if_icmp .ge 13, 3)) (by decide) g9_ ?_
          refine re_iloadn (pc := 40) 3 (by decide +kernel : decode cX1_housesOn 40 = .ok (.iload_n 3, 1)) rfl ?_
          refine re_iconst (pc := 41) (5 : Int32) (by decide +kernel : decode cX1_housesOn 41 = .ok (.iconst 5, 1)) (by decide) ?_
          refine re_iushr (pc := 42) (by decide +kernel : decode cX1_housesOn 42 = .ok (.iushr, 1)) ?_
          obtain ⟨x10_, g11_, h⟩ := rv_lt_e h
          refine re_nI (pc := 43) g11_ ?_
          refine re_istoren (pc := 43) (lv1 := [(3, .int x10_), (4, .int x2_), (0, .ref a0), (2, .int x2)]) (by decide +kernel : decode cX1_housesOn 43 = .ok (.istore_n 3, 1)) rfl (by decide) rfl ?_
          refine re_goto (pc := 44) 4 (by decide +kernel : decode cX1_housesOn 44 = .ok (.goto (-40), 3)) (by decide) ?_
          refine re_sub [2, 3, 0] (lv1 := [(0, .ref a0), (2, .int x2), (3, .int x10_)]) rfl ?_
          exact ih a0 x2 x10_ _ h
        · refine re_icmp_ge_f (pc := 27) 40 (by decide +kernel : decode cX1_housesOn 27 = .ok (.if_icmp .ge 13, 3)) (by decide) g9_ ?_
          refine re_iloadn (pc := 30) 2 (by decide +kernel : decode cX1_housesOn 30 = .ok (.iload_n 2, 1)) rfl ?_
          refine re_aloadn (pc := 31) 1 (by decide +kernel : decode cX1_housesOn 31 = .ok (.aload_n 0, 1)) rfl ?_
          obtain ⟨a12_, g13_, h⟩ := rv_b_e h
          refine re_gR (pc := 32) g13_ lfX1_15 rfl (by decide +kernel : decode cX1_housesOn 32 = .ok (.getfield 15, 3)) ?_
          refine re_iload (pc := 35) 0 (by decide +kernel : decode cX1_housesOn 35 = .ok (.iload 4, 2)) rfl ?_
          obtain ⟨x14_, g15_, h⟩ := rv_b_e h
          refine re_aI (pc := 37) g15_ (by decide +kernel : decode cX1_housesOn 37 = .ok (.iaload, 1)) ?_
          refine re_ior (pc := 38) (by decide +kernel : decode cX1_housesOn 38 = .ok (.ior, 1)) ?_
          obtain ⟨x16_, g17_, h⟩ := rv_lt_e h
          refine re_nI (pc := 39) g17_ ?_
          refine re_istoren (pc := 39) (lv1 := [(2, .int x16_), (4, .int x2_), (0, .ref a0), (3, .int x3)]) (by decide +kernel : decode cX1_housesOn 39 = .ok (.istore_n 2, 1)) rfl (by decide) rfl ?_
          refine re_iloadn (pc := 40) 3 (by decide +kernel : decode cX1_housesOn 40 = .ok (.iload_n 3, 1)) rfl ?_
          refine re_iconst (pc := 41) (5 : Int32) (by decide +kernel : decode cX1_housesOn 41 = .ok (.iconst 5, 1)) (by decide) ?_
          refine re_iushr (pc := 42) (by decide +kernel : decode cX1_housesOn 42 = .ok (.iushr, 1)) ?_
          obtain ⟨x18_, g19_, h⟩ := rv_lt_e h
          refine re_nI (pc := 43) g19_ ?_
          refine re_istoren (pc := 43) (lv1 := [(3, .int x18_), (2, .int x16_), (4, .int x2_), (0, .ref a0)]) (by decide +kernel : decode cX1_housesOn 43 = .ok (.istore_n 3, 1)) rfl (by decide) rfl ?_
          refine re_goto (pc := 44) 4 (by decide +kernel : decode cX1_housesOn 44 = .ok (.goto (-40), 3)) (by decide) ?_
          refine re_sub [3, 1, 0] (lv1 := [(0, .ref a0), (2, .int x16_), (3, .int x18_)]) rfl ?_
          exact ih a0 x16_ x18_ _ h
noncomputable def fnX1_housesOn (n : Nat) (S : rvS) (a0 : Nat) (x1 : Int32) : Option Int32 :=
  cX1_housesOn_4 n S n a0 (0 : Int32) x1
set_option maxRecDepth 20000 in
set_option maxHeartbeats 4000000 in
theorem eX1_housesOn_in (n : Nat) (S : rvS) (a0 : Nat) (x1 : Int32) (r : Int32) (h : fnX1_housesOn n S a0 x1 = some r) : rv_Ev mX1_housesOn 0 0 [(0, .ref a0), (1, .int x1)] [] S (some (.int r)) S := by
  unfold fnX1_housesOn at h
  refine re_iconst (pc := 0) (0 : Int32) (by decide +kernel : decode cX1_housesOn 0 = .ok (.iconst 0, 1)) (by decide) ?_
  refine re_istoren (pc := 1) (lv1 := [(2, .int (0 : Int32)), (0, .ref a0), (1, .int x1)]) (by decide +kernel : decode cX1_housesOn 1 = .ok (.istore_n 2, 1)) rfl (by decide) rfl ?_
  refine re_iloadn (pc := 2) 2 (by decide +kernel : decode cX1_housesOn 2 = .ok (.iload_n 1, 1)) rfl ?_
  refine re_istoren (pc := 3) (lv1 := [(3, .int x1), (2, .int (0 : Int32)), (0, .ref a0), (1, .int x1)]) (by decide +kernel : decode cX1_housesOn 3 = .ok (.istore_n 3, 1)) rfl (by decide) rfl ?_
  refine re_sub [2, 1, 0] (lv1 := [(0, .ref a0), (2, .int (0 : Int32)), (3, .int x1)]) rfl ?_
  exact eX1_housesOn_4 n S n a0 (0 : Int32) x1 _ h
theorem metX1_housesOn (n : Nat) (S : rvS) (a0 : Nat) (x1 : Int32) (r : Int32) (h : fnX1_housesOn n S a0 x1 = some r) : rv_Met yX1_housesOn mX1_housesOn 0 [.ref a0, .int x1] S (some (.int r)) S := rv_Met.of ⟨by decide +kernel, rfl, (fun z => by first | rfl | cases z), rfl⟩ (Nat.le_of_ble_eq_true rfl) rfl (eX1_housesOn_in n S a0 x1 r h)
noncomputable def fnX1_goers (n : Nat) (S : rvS) (a0 : Nat) (x1 : Int32) (x2 : Int32) : Option Int32 :=
  (rv_ck S 0 a0).bind fun u1_ =>
  (fnX1_has n S a0 x1).bind fun x4_ =>
  if x4_ = 0 then (
    some (0 : Int32))
  else (
    (rv_gR S 0 a0 3).bind fun a7_ =>
    (rv_aI S 0 a7_ x1).bind fun x9_ =>
    (fnX1_isVillage n S x9_).bind fun x12_ =>
    if x12_ = 0 then (
      some (0 : Int32))
    else (
      (rv_gR S 0 a0 8).bind fun a15_ =>
      (rv_aI S 0 a15_ x9_).bind fun x17_ =>
      (rv_gR S 0 a0 4).bind fun a19_ =>
      (rv_aI S 0 a19_ x1).bind fun x21_ =>
      (rv_ck S 0 a0).bind fun u23_ =>
      (fnX1_housesOn n S a0 x2).bind fun x26_ =>
      some (x17_ &&& ((x21_ ||| x26_) ^^^ (-1 : Int32)))))
set_option maxRecDepth 20000 in
set_option maxHeartbeats 4000000 in
theorem eX1_goers_in (n : Nat) (S : rvS) (a0 : Nat) (x1 : Int32) (x2 : Int32) (r : Int32) (h : fnX1_goers n S a0 x1 x2 = some r) : rv_Ev mX1_goers 1 0 [(0, .ref a0), (1, .int x1), (2, .int x2)] [] S (some (.int r)) S := by
  unfold fnX1_goers at h
  refine re_aloadn (pc := 0) 0 (by decide +kernel : decode cX1_goers 0 = .ok (.aload_n 0, 1)) rfl ?_
  refine re_iloadn (pc := 1) 1 (by decide +kernel : decode cX1_goers 1 = .ok (.iload_n 1, 1)) rfl ?_
  obtain ⟨u1_, g2_, h⟩ := rv_b_e h
  obtain ⟨x4_, g5_, h⟩ := rv_b_e h
  have m3_ := metX1_has n S a0 x1 _ g5_
  refine re_cV (pc := 2) [.int x1] m3_ (rv_okl.k ⟨rfl, rfl⟩) (rv_up.rf _ _) (by decide) (rv_ck_e g2_) ⟨by decide, rfl⟩ (Nat.le_of_ble_eq_true rfl) lVX1_52 rfl (by decide +kernel : decode cX1_goers 2 = .ok (.invokevirtual 52, 3)) ?_
  rcases rv_if_e h with ⟨g6_, h⟩ | ⟨g6_, h⟩
  · refine re_if_ne_f (pc := 5) 10 (by decide +kernel : decode cX1_goers 5 = .ok (.ifCond .ne 5, 3)) (by decide) g6_ ?_
    refine re_iconst (pc := 8) (0 : Int32) (by decide +kernel : decode cX1_goers 8 = .ok (.iconst 0, 1)) (by decide) ?_
    cases h
    exact re_iret (fun ty hty => by cases hty; rfl) (by decide +kernel : decode cX1_goers 9 = .ok (.ireturn, 1))
  · refine re_if_ne_t (pc := 5) 10 (by decide +kernel : decode cX1_goers 5 = .ok (.ifCond .ne 5, 3)) (by decide) g6_ ?_
    refine re_aloadn (pc := 10) 0 (by decide +kernel : decode cX1_goers 10 = .ok (.aload_n 0, 1)) rfl ?_
    obtain ⟨a7_, g8_, h⟩ := rv_b_e h
    refine re_gR (pc := 11) g8_ lfX1_11 rfl (by decide +kernel : decode cX1_goers 11 = .ok (.getfield 11, 3)) ?_
    refine re_iloadn (pc := 14) 1 (by decide +kernel : decode cX1_goers 14 = .ok (.iload_n 1, 1)) rfl ?_
    obtain ⟨x9_, g10_, h⟩ := rv_b_e h
    refine re_aI (pc := 15) g10_ (by decide +kernel : decode cX1_goers 15 = .ok (.iaload, 1)) ?_
    refine re_istoren (pc := 16) (lv1 := [(3, .int x9_), (0, .ref a0), (1, .int x1), (2, .int x2)]) (by decide +kernel : decode cX1_goers 16 = .ok (.istore_n 3, 1)) rfl (by decide) rfl ?_
    refine re_iloadn (pc := 17) 0 (by decide +kernel : decode cX1_goers 17 = .ok (.iload_n 3, 1)) rfl ?_
    obtain ⟨x12_, g13_, h⟩ := rv_b_e h
    have m11_ := metX1_isVillage n S x9_ _ g13_
    refine re_cS (pc := 18) [.int x9_] m11_ (rv_okl.k ⟨rfl, rfl⟩) (rv_up.rf _ _) (by decide) (Nat.le_of_ble_eq_true rfl) lSX1_55 rfl (by decide +kernel : decode cX1_goers 18 = .ok (.invokestatic 55, 3)) ?_
    rcases rv_if_e h with ⟨g14_, h⟩ | ⟨g14_, h⟩
    · refine re_if_eq_t (pc := 21) 48 (by decide +kernel : decode cX1_goers 21 = .ok (.ifCond .eq 27, 3)) (by decide) g14_ ?_
      refine re_iconst (pc := 48) (0 : Int32) (by decide +kernel : decode cX1_goers 48 = .ok (.iconst 0, 1)) (by decide) ?_
      cases h
      exact re_iret (fun ty hty => by cases hty; rfl) (by decide +kernel : decode cX1_goers 49 = .ok (.ireturn, 1))
    · refine re_if_eq_f (pc := 21) 48 (by decide +kernel : decode cX1_goers 21 = .ok (.ifCond .eq 27, 3)) (by decide) g14_ ?_
      refine re_aloadn (pc := 24) 1 (by decide +kernel : decode cX1_goers 24 = .ok (.aload_n 0, 1)) rfl ?_
      obtain ⟨a15_, g16_, h⟩ := rv_b_e h
      refine re_gR (pc := 25) g16_ lfX1_28 rfl (by decide +kernel : decode cX1_goers 25 = .ok (.getfield 28, 3)) ?_
      refine re_iloadn (pc := 28) 0 (by decide +kernel : decode cX1_goers 28 = .ok (.iload_n 3, 1)) rfl ?_
      obtain ⟨x17_, g18_, h⟩ := rv_b_e h
      refine re_aI (pc := 29) g18_ (by decide +kernel : decode cX1_goers 29 = .ok (.iaload, 1)) ?_
      refine re_aloadn (pc := 30) 1 (by decide +kernel : decode cX1_goers 30 = .ok (.aload_n 0, 1)) rfl ?_
      obtain ⟨a19_, g20_, h⟩ := rv_b_e h
      refine re_gR (pc := 31) g20_ lfX1_15 rfl (by decide +kernel : decode cX1_goers 31 = .ok (.getfield 15, 3)) ?_
      refine re_iloadn (pc := 34) 2 (by decide +kernel : decode cX1_goers 34 = .ok (.iload_n 1, 1)) rfl ?_
      obtain ⟨x21_, g22_, h⟩ := rv_b_e h
      refine re_aI (pc := 35) g22_ (by decide +kernel : decode cX1_goers 35 = .ok (.iaload, 1)) ?_
      refine re_aloadn (pc := 36) 1 (by decide +kernel : decode cX1_goers 36 = .ok (.aload_n 0, 1)) rfl ?_
      refine re_iloadn (pc := 37) 3 (by decide +kernel : decode cX1_goers 37 = .ok (.iload_n 2, 1)) rfl ?_
      obtain ⟨u23_, g24_, h⟩ := rv_b_e h
      obtain ⟨x26_, g27_, h⟩ := rv_b_e h
      have m25_ := metX1_housesOn n S a0 x2 _ g27_
      refine re_cV (pc := 38) [.int x2] m25_ (rv_okl.k ⟨rfl, rfl⟩) (rv_up.rf _ _) (by decide) (rv_ck_e g24_) ⟨by decide, rfl⟩ (Nat.le_of_ble_eq_true rfl) lVX1_66 rfl (by decide +kernel : decode cX1_goers 38 = .ok (.invokevirtual 66, 3)) ?_
      refine re_ior (pc := 41) (by decide +kernel : decode cX1_goers 41 = .ok (.ior, 1)) ?_
      refine re_iconst (pc := 42) (-1 : Int32) (by decide +kernel : decode cX1_goers 42 = .ok (.iconst (-1), 1)) (by decide) ?_
      refine re_ixor (pc := 43) (by decide +kernel : decode cX1_goers 43 = .ok (.ixor, 1)) ?_
      refine re_iand (pc := 44) (by decide +kernel : decode cX1_goers 44 = .ok (.iand, 1)) ?_
      refine re_goto (pc := 45) 49 (by decide +kernel : decode cX1_goers 45 = .ok (.goto 4, 3)) (by decide) ?_
      cases h
      exact re_iret (fun ty hty => by cases hty; rfl) (by decide +kernel : decode cX1_goers 49 = .ok (.ireturn, 1))
theorem metX1_goers (n : Nat) (S : rvS) (a0 : Nat) (x1 : Int32) (x2 : Int32) (r : Int32) (h : fnX1_goers n S a0 x1 x2 = some r) : rv_Met yX1_goers mX1_goers 1 [.ref a0, .int x1, .int x2] S (some (.int r)) S := rv_Met.of ⟨by decide +kernel, rfl, (fun z => by first | rfl | cases z), rfl⟩ (Nat.le_of_ble_eq_true rfl) rfl (eX1_goers_in n S a0 x1 x2 r h)
noncomputable def fnX1_whyNot (n : Nat) (S : rvS) (a0 : Nat) (x1 : Int32) (x2 : Int32) (x3 : Int32) : Option Int32 :=
  (rv_ck S 0 a0).bind fun u1_ =>
  (fnX1_isDead n S a0 x3).bind fun x4_ =>
  if x4_ = 0 then (
    (rv_ck S 0 a0).bind fun u7_ =>
    (fnX1_houseOf n S a0 x1).bind fun x10_ =>
    if (((x10_.toUInt32 >>> (x3.toUInt32 &&& Int32.toUInt32 31)).toInt32) &&& (1 : Int32)) = 0 then (
      (rv_ck S 0 a0).bind fun u13_ =>
      (fnX1_housesOn n S a0 x2).bind fun x16_ =>
      if (((x16_.toUInt32 >>> (x3.toUInt32 &&& Int32.toUInt32 31)).toInt32) &&& (1 : Int32)) = 0 then (
        (rv_ck S 0 a0).bind fun u19_ =>
        (fnX1_goers n S a0 x1 x2).bind fun x22_ =>
        if (((x22_.toUInt32 >>> (x3.toUInt32 &&& Int32.toUInt32 31)).toInt32) &&& (1 : Int32)) = 0 then (
          some (4 : Int32))
        else (
          some (0 : Int32)))
      else (
        some (3 : Int32)))
    else (
      some (2 : Int32)))
  else (
    some (1 : Int32))
set_option maxRecDepth 20000 in
set_option maxHeartbeats 4000000 in
theorem eX1_whyNot_in (n : Nat) (S : rvS) (a0 : Nat) (x1 : Int32) (x2 : Int32) (x3 : Int32) (r : Int32) (h : fnX1_whyNot n S a0 x1 x2 x3 = some r) : rv_Ev mX1_whyNot 2 0 [(0, .ref a0), (1, .int x1), (2, .int x2), (3, .int x3)] [] S (some (.int r)) S := by
  unfold fnX1_whyNot at h
  refine re_aloadn (pc := 0) 0 (by decide +kernel : decode cX1_whyNot 0 = .ok (.aload_n 0, 1)) rfl ?_
  refine re_iloadn (pc := 1) 3 (by decide +kernel : decode cX1_whyNot 1 = .ok (.iload_n 3, 1)) rfl ?_
  obtain ⟨u1_, g2_, h⟩ := rv_b_e h
  obtain ⟨x4_, g5_, h⟩ := rv_b_e h
  have m3_ := metX1_isDead n S a0 x3 _ g5_
  refine re_cV (pc := 2) [.int x3] m3_ (rv_okl.k ⟨rfl, rfl⟩) (rv_up.rf _ _) (by decide) (rv_ck_e g2_) ⟨by decide, rfl⟩ (Nat.le_of_ble_eq_true rfl) lVX1_48 rfl (by decide +kernel : decode cX1_whyNot 2 = .ok (.invokevirtual 48, 3)) ?_
  rcases rv_if_e h with ⟨g6_, h⟩ | ⟨g6_, h⟩
  · refine re_if_eq_t (pc := 5) 10 (by decide +kernel : decode cX1_whyNot 5 = .ok (.ifCond .eq 5, 3)) (by decide) g6_ ?_
    refine re_aloadn (pc := 10) 0 (by decide +kernel : decode cX1_whyNot 10 = .ok (.aload_n 0, 1)) rfl ?_
    refine re_iloadn (pc := 11) 1 (by decide +kernel : decode cX1_whyNot 11 = .ok (.iload_n 1, 1)) rfl ?_
    obtain ⟨u7_, g8_, h⟩ := rv_b_e h
    obtain ⟨x10_, g11_, h⟩ := rv_b_e h
    have m9_ := metX1_houseOf n S a0 x1 _ g11_
    refine re_cV (pc := 12) [.int x1] m9_ (rv_okl.k ⟨rfl, rfl⟩) (rv_up.rf _ _) (by decide) (rv_ck_e g8_) ⟨by decide, rfl⟩ (Nat.le_of_ble_eq_true rfl) lVX1_69 rfl (by decide +kernel : decode cX1_whyNot 12 = .ok (.invokevirtual 69, 3)) ?_
    refine re_iloadn (pc := 15) 3 (by decide +kernel : decode cX1_whyNot 15 = .ok (.iload_n 3, 1)) rfl ?_
    refine re_iushr (pc := 16) (by decide +kernel : decode cX1_whyNot 16 = .ok (.iushr, 1)) ?_
    refine re_iconst (pc := 17) (1 : Int32) (by decide +kernel : decode cX1_whyNot 17 = .ok (.iconst 1, 1)) (by decide) ?_
    refine re_iand (pc := 18) (by decide +kernel : decode cX1_whyNot 18 = .ok (.iand, 1)) ?_
    rcases rv_if_e h with ⟨g12_, h⟩ | ⟨g12_, h⟩
    · refine re_if_eq_t (pc := 19) 24 (by decide +kernel : decode cX1_whyNot 19 = .ok (.ifCond .eq 5, 3)) (by decide) g12_ ?_
      refine re_aloadn (pc := 24) 0 (by decide +kernel : decode cX1_whyNot 24 = .ok (.aload_n 0, 1)) rfl ?_
      refine re_iloadn (pc := 25) 2 (by decide +kernel : decode cX1_whyNot 25 = .ok (.iload_n 2, 1)) rfl ?_
      obtain ⟨u13_, g14_, h⟩ := rv_b_e h
      obtain ⟨x16_, g17_, h⟩ := rv_b_e h
      have m15_ := metX1_housesOn n S a0 x2 _ g17_
      refine re_cV (pc := 26) [.int x2] m15_ (rv_okl.k ⟨rfl, rfl⟩) (rv_up.rf _ _) (by decide) (rv_ck_e g14_) ⟨by decide, rfl⟩ (Nat.le_of_ble_eq_true rfl) lVX1_66 rfl (by decide +kernel : decode cX1_whyNot 26 = .ok (.invokevirtual 66, 3)) ?_
      refine re_iloadn (pc := 29) 3 (by decide +kernel : decode cX1_whyNot 29 = .ok (.iload_n 3, 1)) rfl ?_
      refine re_iushr (pc := 30) (by decide +kernel : decode cX1_whyNot 30 = .ok (.iushr, 1)) ?_
      refine re_iconst (pc := 31) (1 : Int32) (by decide +kernel : decode cX1_whyNot 31 = .ok (.iconst 1, 1)) (by decide) ?_
      refine re_iand (pc := 32) (by decide +kernel : decode cX1_whyNot 32 = .ok (.iand, 1)) ?_
      rcases rv_if_e h with ⟨g18_, h⟩ | ⟨g18_, h⟩
      · refine re_if_eq_t (pc := 33) 38 (by decide +kernel : decode cX1_whyNot 33 = .ok (.ifCond .eq 5, 3)) (by decide) g18_ ?_
        refine re_aloadn (pc := 38) 0 (by decide +kernel : decode cX1_whyNot 38 = .ok (.aload_n 0, 1)) rfl ?_
        refine re_iloadn (pc := 39) 1 (by decide +kernel : decode cX1_whyNot 39 = .ok (.iload_n 1, 1)) rfl ?_
        refine re_iloadn (pc := 40) 2 (by decide +kernel : decode cX1_whyNot 40 = .ok (.iload_n 2, 1)) rfl ?_
        obtain ⟨u19_, g20_, h⟩ := rv_b_e h
        obtain ⟨x22_, g23_, h⟩ := rv_b_e h
        have m21_ := metX1_goers n S a0 x1 x2 _ g23_
        refine re_cV (pc := 41) [.int x1, .int x2] m21_ (rv_okl.k ⟨rfl, rfl⟩) (rv_up.rf _ _) (by decide) (rv_ck_e g20_) ⟨by decide, rfl⟩ (Nat.le_of_ble_eq_true rfl) lVX1_72 rfl (by decide +kernel : decode cX1_whyNot 41 = .ok (.invokevirtual 72, 3)) ?_
        refine re_iloadn (pc := 44) 3 (by decide +kernel : decode cX1_whyNot 44 = .ok (.iload_n 3, 1)) rfl ?_
        refine re_iushr (pc := 45) (by decide +kernel : decode cX1_whyNot 45 = .ok (.iushr, 1)) ?_
        refine re_iconst (pc := 46) (1 : Int32) (by decide +kernel : decode cX1_whyNot 46 = .ok (.iconst 1, 1)) (by decide) ?_
        refine re_iand (pc := 47) (by decide +kernel : decode cX1_whyNot 47 = .ok (.iand, 1)) ?_
        rcases rv_if_e h with ⟨g24_, h⟩ | ⟨g24_, h⟩
        · refine re_if_eq_t (pc := 48) 55 (by decide +kernel : decode cX1_whyNot 48 = .ok (.ifCond .eq 7, 3)) (by decide) g24_ ?_
          refine re_iconst (pc := 55) (4 : Int32) (by decide +kernel : decode cX1_whyNot 55 = .ok (.iconst 4, 1)) (by decide) ?_
          cases h
          exact re_iret (fun ty hty => by cases hty; rfl) (by decide +kernel : decode cX1_whyNot 56 = .ok (.ireturn, 1))
        · refine re_if_eq_f (pc := 48) 55 (by decide +kernel : decode cX1_whyNot 48 = .ok (.ifCond .eq 7, 3)) (by decide) g24_ ?_
          refine re_iconst (pc := 51) (0 : Int32) (by decide +kernel : decode cX1_whyNot 51 = .ok (.iconst 0, 1)) (by decide) ?_
          refine re_goto (pc := 52) 56 (by decide +kernel : decode cX1_whyNot 52 = .ok (.goto 4, 3)) (by decide) ?_
          cases h
          exact re_iret (fun ty hty => by cases hty; rfl) (by decide +kernel : decode cX1_whyNot 56 = .ok (.ireturn, 1))
      · refine re_if_eq_f (pc := 33) 38 (by decide +kernel : decode cX1_whyNot 33 = .ok (.ifCond .eq 5, 3)) (by decide) g18_ ?_
        refine re_iconst (pc := 36) (3 : Int32) (by decide +kernel : decode cX1_whyNot 36 = .ok (.iconst 3, 1)) (by decide) ?_
        cases h
        exact re_iret (fun ty hty => by cases hty; rfl) (by decide +kernel : decode cX1_whyNot 37 = .ok (.ireturn, 1))
    · refine re_if_eq_f (pc := 19) 24 (by decide +kernel : decode cX1_whyNot 19 = .ok (.ifCond .eq 5, 3)) (by decide) g12_ ?_
      refine re_iconst (pc := 22) (2 : Int32) (by decide +kernel : decode cX1_whyNot 22 = .ok (.iconst 2, 1)) (by decide) ?_
      cases h
      exact re_iret (fun ty hty => by cases hty; rfl) (by decide +kernel : decode cX1_whyNot 23 = .ok (.ireturn, 1))
  · refine re_if_eq_f (pc := 5) 10 (by decide +kernel : decode cX1_whyNot 5 = .ok (.ifCond .eq 5, 3)) (by decide) g6_ ?_
    refine re_iconst (pc := 8) (1 : Int32) (by decide +kernel : decode cX1_whyNot 8 = .ok (.iconst 1, 1)) (by decide) ?_
    cases h
    exact re_iret (fun ty hty => by cases hty; rfl) (by decide +kernel : decode cX1_whyNot 9 = .ok (.ireturn, 1))
theorem metX1_whyNot (n : Nat) (S : rvS) (a0 : Nat) (x1 : Int32) (x2 : Int32) (x3 : Int32) (r : Int32) (h : fnX1_whyNot n S a0 x1 x2 x3 = some r) : rv_Met yX1_whyNot mX1_whyNot 2 [.ref a0, .int x1, .int x2, .int x3] S (some (.int r)) S := rv_Met.of ⟨by decide +kernel, rfl, (fun z => by first | rfl | cases z), rfl⟩ (Nat.le_of_ble_eq_true rfl) rfl (eX1_whyNot_in n S a0 x1 x2 x3 r h)
noncomputable def fnX2_init (n : Nat) (S : rvS) (a0 : Nat) : Option rvS :=
  (rv_vl S a0).bind fun _ =>
  rv_lt (64 + S.1.length) fun a2_ =>
  rv_lt (rv_new S (51, 5860)) fun S4_ =>
  (rv_pR S4_ 1 a0 0 a2_).bind fun S8_ =>
  rv_lt (64 + S8_.1.length) fun a12_ =>
  rv_lt (rv_new S8_ (51, 5860)) fun S14_ =>
  (rv_pR S14_ 1 a0 1 a12_).bind fun S19_ =>
  rv_lt (64 + S19_.1.length) fun a24_ =>
  rv_lt (rv_new S19_ (51, 266240)) fun S26_ =>
  (rv_pR S26_ 1 a0 2 a24_).bind fun S32_ =>
  rv_lt (64 + S32_.1.length) fun a38_ =>
  rv_lt (rv_new S32_ (50, 1024)) fun S40_ =>
  (rv_pR S40_ 1 a0 4 a38_).bind fun S47_ =>
  rv_lt (64 + S47_.1.length) fun a54_ =>
  rv_lt (rv_new S47_ (50, 5)) fun S56_ =>
  (rv_pR S56_ 1 a0 6 a54_).bind fun S64_ =>
  rv_lt (64 + S64_.1.length) fun a72_ =>
  rv_lt (rv_new S64_ (50, 5)) fun S74_ =>
  (rv_pR S74_ 1 a0 7 a72_).bind fun S83_ =>
  some S83_
set_option maxRecDepth 20000 in
set_option maxHeartbeats 4000000 in
theorem eX2_init_in (n : Nat) (S : rvS) (a0 : Nat) (S' : rvS) (h : fnX2_init n S a0 = some S') : rv_Ev mX2_init 1 0 [(0, .ref a0)] [] S none S' := by
  unfold fnX2_init at h
  obtain ⟨_, g1_, h⟩ := rv_b_e h
  refine re_aloadn (pc := 0) 0 (by decide +kernel : decode cX2_init 0 = .ok (.aload_n 0, 1)) rfl ?_
  refine re_obj (pc := 1) (rw2 52 (by decide +kernel) rfl) rwoi rwoc (Nat.le_of_ble_eq_true rfl) (by decide) (by decide +kernel : decode cX2_init 1 = .ok (.invokespecial 9, 3)) ?_
  refine re_aloadn (pc := 4) 0 (by decide +kernel : decode cX2_init 4 = .ok (.aload_n 0, 1)) rfl ?_
  refine re_sipush (pc := 5) (5860 : Int32) (by decide +kernel : decode cX2_init 5 = .ok (.sipush 5860, 3)) (by decide) ?_
  refine re_newa (pc := 8) (t := 1) (N := 5860) rfl (rv_alv (List.forall_mem_cons.mpr ⟨(rv_vl_e g1_), (fun _ z => absurd z List.not_mem_nil)⟩)) ((List.forall_mem_cons.mpr ⟨(rv_vl_e g1_), (fun _ z => absurd z List.not_mem_nil)⟩)) (by decide) rfl (rw1 138 (by decide +kernel) rfl) (by decide) (by decide) (by decide) (by decide +kernel : decode cX2_init 8 = .ok (.newarray .long, 2)) ?_
  obtain ⟨a2_, g3_, h⟩ := rv_lt_e h
  refine re_nR g3_ ?_
  obtain ⟨S4_, g5_, h⟩ := rv_lt_e h
  refine re_nS g5_ ?_
  have o6_ : a0 < 64 + S4_.1.length := rv_okn g5_ (rv_vl_e g1_)
  have o7_ : a2_ < 64 + S4_.1.length := by rw [← g3_]; exact rv_okn0 g5_
  obtain ⟨S8_, g9_, h⟩ := rv_b_e h
  have o10_ : a0 < 64 + S8_.1.length := by rw [rv_pR_sh g9_]; exact o6_
  have o11_ : a2_ < 64 + S8_.1.length := by rw [rv_pR_sh g9_]; exact o7_
  refine re_pR (pc := 10) g9_ lfX2_15 rfl (Or.inr ⟨rfl, rfl, rfl, (rw2 54 (by decide +kernel) rfl)⟩) (by decide +kernel : decode cX2_init 10 = .ok (.putfield 15, 3)) ?_
  refine re_aloadn (pc := 13) 0 (by decide +kernel : decode cX2_init 13 = .ok (.aload_n 0, 1)) rfl ?_
  refine re_sipush (pc := 14) (5860 : Int32) (by decide +kernel : decode cX2_init 14 = .ok (.sipush 5860, 3)) (by decide) ?_
  refine re_newa (pc := 17) (t := 1) (N := 5860) rfl (rv_alv (List.forall_mem_cons.mpr ⟨o10_, (fun _ z => absurd z List.not_mem_nil)⟩)) ((List.forall_mem_cons.mpr ⟨o10_, (fun _ z => absurd z List.not_mem_nil)⟩)) (by decide) rfl (rw1 138 (by decide +kernel) rfl) (by decide) (by decide) (by decide) (by decide +kernel : decode cX2_init 17 = .ok (.newarray .long, 2)) ?_
  obtain ⟨a12_, g13_, h⟩ := rv_lt_e h
  refine re_nR g13_ ?_
  obtain ⟨S14_, g15_, h⟩ := rv_lt_e h
  refine re_nS g15_ ?_
  have o16_ : a0 < 64 + S14_.1.length := rv_okn g15_ o10_
  have o17_ : a2_ < 64 + S14_.1.length := rv_okn g15_ o11_
  have o18_ : a12_ < 64 + S14_.1.length := by rw [← g13_]; exact rv_okn0 g15_
  obtain ⟨S19_, g20_, h⟩ := rv_b_e h
  have o21_ : a0 < 64 + S19_.1.length := by rw [rv_pR_sh g20_]; exact o16_
  have o22_ : a2_ < 64 + S19_.1.length := by rw [rv_pR_sh g20_]; exact o17_
  have o23_ : a12_ < 64 + S19_.1.length := by rw [rv_pR_sh g20_]; exact o18_
  refine re_pR (pc := 19) g20_ lfX2_19 rfl (Or.inr ⟨rfl, rfl, rfl, (rw2 55 (by decide +kernel) rfl)⟩) (by decide +kernel : decode cX2_init 19 = .ok (.putfield 19, 3)) ?_
  refine re_aloadn (pc := 22) 0 (by decide +kernel : decode cX2_init 22 = .ok (.aload_n 0, 1)) rfl ?_
  refine re_ldc (pc := 23) (v := 266240) (rw2 53 (by decide +kernel) rfl) (by decide +kernel : decode cX2_init 23 = .ok (.ldc 22, 2)) ?_
  refine re_newa (pc := 25) (t := 1) (N := 266240) rfl (rv_alv (List.forall_mem_cons.mpr ⟨o21_, (fun _ z => absurd z List.not_mem_nil)⟩)) ((List.forall_mem_cons.mpr ⟨o21_, (fun _ z => absurd z List.not_mem_nil)⟩)) (by decide) rfl (rw1 138 (by decide +kernel) rfl) (by decide) (by decide) (by decide) (by decide +kernel : decode cX2_init 25 = .ok (.newarray .long, 2)) ?_
  obtain ⟨a24_, g25_, h⟩ := rv_lt_e h
  refine re_nR g25_ ?_
  obtain ⟨S26_, g27_, h⟩ := rv_lt_e h
  refine re_nS g27_ ?_
  have o28_ : a0 < 64 + S26_.1.length := rv_okn g27_ o21_
  have o29_ : a2_ < 64 + S26_.1.length := rv_okn g27_ o22_
  have o30_ : a12_ < 64 + S26_.1.length := rv_okn g27_ o23_
  have o31_ : a24_ < 64 + S26_.1.length := by rw [← g25_]; exact rv_okn0 g27_
  obtain ⟨S32_, g33_, h⟩ := rv_b_e h
  have o34_ : a0 < 64 + S32_.1.length := by rw [rv_pR_sh g33_]; exact o28_
  have o35_ : a2_ < 64 + S32_.1.length := by rw [rv_pR_sh g33_]; exact o29_
  have o36_ : a12_ < 64 + S32_.1.length := by rw [rv_pR_sh g33_]; exact o30_
  have o37_ : a24_ < 64 + S32_.1.length := by rw [rv_pR_sh g33_]; exact o31_
  refine re_pR (pc := 27) g33_ lfX2_23 rfl (Or.inr ⟨rfl, rfl, rfl, (rw2 56 (by decide +kernel) rfl)⟩) (by decide +kernel : decode cX2_init 27 = .ok (.putfield 23, 3)) ?_
  refine re_aloadn (pc := 30) 0 (by decide +kernel : decode cX2_init 30 = .ok (.aload_n 0, 1)) rfl ?_
  refine re_sipush (pc := 31) (1024 : Int32) (by decide +kernel : decode cX2_init 31 = .ok (.sipush 1024, 3)) (by decide) ?_
  refine re_newa (pc := 34) (t := 0) (N := 1024) rfl (rv_alv (List.forall_mem_cons.mpr ⟨o34_, (fun _ z => absurd z List.not_mem_nil)⟩)) ((List.forall_mem_cons.mpr ⟨o34_, (fun _ z => absurd z List.not_mem_nil)⟩)) (by decide) rfl (rw1 137 (by decide +kernel) rfl) (by decide) (by decide) (by decide) (by decide +kernel : decode cX2_init 34 = .ok (.newarray .int, 2)) ?_
  obtain ⟨a38_, g39_, h⟩ := rv_lt_e h
  refine re_nR g39_ ?_
  obtain ⟨S40_, g41_, h⟩ := rv_lt_e h
  refine re_nS g41_ ?_
  have o42_ : a0 < 64 + S40_.1.length := rv_okn g41_ o34_
  have o43_ : a2_ < 64 + S40_.1.length := rv_okn g41_ o35_
  have o44_ : a12_ < 64 + S40_.1.length := rv_okn g41_ o36_
  have o45_ : a24_ < 64 + S40_.1.length := rv_okn g41_ o37_
  have o46_ : a38_ < 64 + S40_.1.length := by rw [← g39_]; exact rv_okn0 g41_
  obtain ⟨S47_, g48_, h⟩ := rv_b_e h
  have o49_ : a0 < 64 + S47_.1.length := by rw [rv_pR_sh g48_]; exact o42_
  have o50_ : a2_ < 64 + S47_.1.length := by rw [rv_pR_sh g48_]; exact o43_
  have o51_ : a12_ < 64 + S47_.1.length := by rw [rv_pR_sh g48_]; exact o44_
  have o52_ : a24_ < 64 + S47_.1.length := by rw [rv_pR_sh g48_]; exact o45_
  have o53_ : a38_ < 64 + S47_.1.length := by rw [rv_pR_sh g48_]; exact o46_
  refine re_pR (pc := 36) g48_ lfX2_26 rfl (Or.inr ⟨rfl, rfl, rfl, (rw2 58 (by decide +kernel) rfl)⟩) (by decide +kernel : decode cX2_init 36 = .ok (.putfield 26, 3)) ?_
  refine re_aloadn (pc := 39) 0 (by decide +kernel : decode cX2_init 39 = .ok (.aload_n 0, 1)) rfl ?_
  refine re_iconst (pc := 40) (5 : Int32) (by decide +kernel : decode cX2_init 40 = .ok (.iconst 5, 1)) (by decide) ?_
  refine re_newa (pc := 41) (t := 0) (N := 5) rfl (rv_alv (List.forall_mem_cons.mpr ⟨o49_, (fun _ z => absurd z List.not_mem_nil)⟩)) ((List.forall_mem_cons.mpr ⟨o49_, (fun _ z => absurd z List.not_mem_nil)⟩)) (by decide) rfl (rw1 137 (by decide +kernel) rfl) (by decide) (by decide) (by decide) (by decide +kernel : decode cX2_init 41 = .ok (.newarray .int, 2)) ?_
  obtain ⟨a54_, g55_, h⟩ := rv_lt_e h
  refine re_nR g55_ ?_
  obtain ⟨S56_, g57_, h⟩ := rv_lt_e h
  refine re_nS g57_ ?_
  have o58_ : a0 < 64 + S56_.1.length := rv_okn g57_ o49_
  have o59_ : a2_ < 64 + S56_.1.length := rv_okn g57_ o50_
  have o60_ : a12_ < 64 + S56_.1.length := rv_okn g57_ o51_
  have o61_ : a24_ < 64 + S56_.1.length := rv_okn g57_ o52_
  have o62_ : a38_ < 64 + S56_.1.length := rv_okn g57_ o53_
  have o63_ : a54_ < 64 + S56_.1.length := by rw [← g55_]; exact rv_okn0 g57_
  obtain ⟨S64_, g65_, h⟩ := rv_b_e h
  have o66_ : a0 < 64 + S64_.1.length := by rw [rv_pR_sh g65_]; exact o58_
  have o67_ : a2_ < 64 + S64_.1.length := by rw [rv_pR_sh g65_]; exact o59_
  have o68_ : a12_ < 64 + S64_.1.length := by rw [rv_pR_sh g65_]; exact o60_
  have o69_ : a24_ < 64 + S64_.1.length := by rw [rv_pR_sh g65_]; exact o61_
  have o70_ : a38_ < 64 + S64_.1.length := by rw [rv_pR_sh g65_]; exact o62_
  have o71_ : a54_ < 64 + S64_.1.length := by rw [rv_pR_sh g65_]; exact o63_
  refine re_pR (pc := 43) g65_ lfX2_30 rfl (Or.inr ⟨rfl, rfl, rfl, (rw2 60 (by decide +kernel) rfl)⟩) (by decide +kernel : decode cX2_init 43 = .ok (.putfield 30, 3)) ?_
  refine re_aloadn (pc := 46) 0 (by decide +kernel : decode cX2_init 46 = .ok (.aload_n 0, 1)) rfl ?_
  refine re_iconst (pc := 47) (5 : Int32) (by decide +kernel : decode cX2_init 47 = .ok (.iconst 5, 1)) (by decide) ?_
  refine re_newa (pc := 48) (t := 0) (N := 5) rfl (rv_alv (List.forall_mem_cons.mpr ⟨o66_, (fun _ z => absurd z List.not_mem_nil)⟩)) ((List.forall_mem_cons.mpr ⟨o66_, (fun _ z => absurd z List.not_mem_nil)⟩)) (by decide) rfl (rw1 137 (by decide +kernel) rfl) (by decide) (by decide) (by decide) (by decide +kernel : decode cX2_init 48 = .ok (.newarray .int, 2)) ?_
  obtain ⟨a72_, g73_, h⟩ := rv_lt_e h
  refine re_nR g73_ ?_
  obtain ⟨S74_, g75_, h⟩ := rv_lt_e h
  refine re_nS g75_ ?_
  have o76_ : a0 < 64 + S74_.1.length := rv_okn g75_ o66_
  have o77_ : a2_ < 64 + S74_.1.length := rv_okn g75_ o67_
  have o78_ : a12_ < 64 + S74_.1.length := rv_okn g75_ o68_
  have o79_ : a24_ < 64 + S74_.1.length := rv_okn g75_ o69_
  have o80_ : a38_ < 64 + S74_.1.length := rv_okn g75_ o70_
  have o81_ : a54_ < 64 + S74_.1.length := rv_okn g75_ o71_
  have o82_ : a72_ < 64 + S74_.1.length := by rw [← g73_]; exact rv_okn0 g75_
  obtain ⟨S83_, g84_, h⟩ := rv_b_e h
  have o85_ : a0 < 64 + S83_.1.length := by rw [rv_pR_sh g84_]; exact o76_
  have o86_ : a2_ < 64 + S83_.1.length := by rw [rv_pR_sh g84_]; exact o77_
  have o87_ : a12_ < 64 + S83_.1.length := by rw [rv_pR_sh g84_]; exact o78_
  have o88_ : a24_ < 64 + S83_.1.length := by rw [rv_pR_sh g84_]; exact o79_
  have o89_ : a38_ < 64 + S83_.1.length := by rw [rv_pR_sh g84_]; exact o80_
  have o90_ : a54_ < 64 + S83_.1.length := by rw [rv_pR_sh g84_]; exact o81_
  have o91_ : a72_ < 64 + S83_.1.length := by rw [rv_pR_sh g84_]; exact o82_
  refine re_pR (pc := 50) g84_ lfX2_33 rfl (Or.inr ⟨rfl, rfl, rfl, (rw2 61 (by decide +kernel) rfl)⟩) (by decide +kernel : decode cX2_init 50 = .ok (.putfield 33, 3)) ?_
  cases h
  exact re_vret (by decide +kernel : decode cX2_init 53 = .ok (.return_, 1))
theorem metX2_init (n : Nat) (S : rvS) (a0 : Nat) (S' : rvS) (h : fnX2_init n S a0 = some S') : rv_Met yX2_init mX2_init 1 [.ref a0] S none S' := rv_Met.of ⟨by decide +kernel, rfl, (fun z => by first | rfl | cases z), rfl⟩ (Nat.le_of_ble_eq_true rfl) rfl (eX2_init_in n S a0 S' h)
noncomputable def fnX2_stateOf (n : Nat) (S : rvS) (x0 : Int32) (x1 : Int32) : Option Int32 :=
  some ((x0 ||| (x1 <<< ((5 : Int32) &&& 31))) &&& (1048575 : Int32))
set_option maxRecDepth 20000 in
set_option maxHeartbeats 4000000 in
theorem eX2_stateOf_in (n : Nat) (S : rvS) (x0 : Int32) (x1 : Int32) (r : Int32) (h : fnX2_stateOf n S x0 x1 = some r) : rv_Ev mX2_stateOf 0 0 [(0, .int x0), (1, .int x1)] [] S (some (.int r)) S := by
  unfold fnX2_stateOf at h
  refine re_iloadn (pc := 0) 0 (by decide +kernel : decode cX2_stateOf 0 = .ok (.iload_n 0, 1)) rfl ?_
  refine re_iloadn (pc := 1) 1 (by decide +kernel : decode cX2_stateOf 1 = .ok (.iload_n 1, 1)) rfl ?_
  refine re_iconst (pc := 2) (5 : Int32) (by decide +kernel : decode cX2_stateOf 2 = .ok (.iconst 5, 1)) (by decide) ?_
  refine re_ishl (pc := 3) (by decide +kernel : decode cX2_stateOf 3 = .ok (.ishl, 1)) ?_
  refine re_ior (pc := 4) (by decide +kernel : decode cX2_stateOf 4 = .ok (.ior, 1)) ?_
  refine re_ldc (pc := 5) (v := 1048575) (rw5 21 (by decide +kernel) rfl) (by decide +kernel : decode cX2_stateOf 5 = .ok (.ldc 36, 2)) ?_
  refine re_iand (pc := 7) (by decide +kernel : decode cX2_stateOf 7 = .ok (.iand, 1)) ?_
  cases h
  exact re_iret (fun ty hty => by cases hty; rfl) (by decide +kernel : decode cX2_stateOf 8 = .ok (.ireturn, 1))
theorem metX2_stateOf (n : Nat) (S : rvS) (x0 : Int32) (x1 : Int32) (r : Int32) (h : fnX2_stateOf n S x0 x1 = some r) : rv_Met yX2_stateOf mX2_stateOf 0 [.int x0, .int x1] S (some (.int r)) S := rv_Met.of ⟨by decide +kernel, rfl, (fun z => by first | rfl | cases z), rfl⟩ (Nat.le_of_ble_eq_true rfl) rfl (eX2_stateOf_in n S x0 x1 r h)
noncomputable def fnX2_ownerOf (n : Nat) (S : rvS) (x0 : Int32) : Option Int32 :=
  some (x0 &&& (31 : Int32))
set_option maxRecDepth 20000 in
set_option maxHeartbeats 4000000 in
theorem eX2_ownerOf_in (n : Nat) (S : rvS) (x0 : Int32) (r : Int32) (h : fnX2_ownerOf n S x0 = some r) : rv_Ev mX2_ownerOf 0 0 [(0, .int x0)] [] S (some (.int r)) S := by
  unfold fnX2_ownerOf at h
  refine re_iloadn (pc := 0) 0 (by decide +kernel : decode cX2_ownerOf 0 = .ok (.iload_n 0, 1)) rfl ?_
  refine re_bipush (pc := 1) (31 : Int32) (by decide +kernel : decode cX2_ownerOf 1 = .ok (.bipush 31, 2)) (by decide) ?_
  refine re_iand (pc := 3) (by decide +kernel : decode cX2_ownerOf 3 = .ok (.iand, 1)) ?_
  cases h
  exact re_iret (fun ty hty => by cases hty; rfl) (by decide +kernel : decode cX2_ownerOf 4 = .ok (.ireturn, 1))
theorem metX2_ownerOf (n : Nat) (S : rvS) (x0 : Int32) (r : Int32) (h : fnX2_ownerOf n S x0 = some r) : rv_Met yX2_ownerOf mX2_ownerOf 0 [.int x0] S (some (.int r)) S := rv_Met.of ⟨by decide +kernel, rfl, (fun z => by first | rfl | cases z), rfl⟩ (Nat.le_of_ble_eq_true rfl) rfl (eX2_ownerOf_in n S x0 r h)
noncomputable def fnX2_rimOf (n : Nat) (S : rvS) (x0 : Int32) : Option Int32 :=
  some ((x0.toUInt32 >>> ((5 : Int32).toUInt32 &&& Int32.toUInt32 31)).toInt32)
set_option maxRecDepth 20000 in
set_option maxHeartbeats 4000000 in
theorem eX2_rimOf_in (n : Nat) (S : rvS) (x0 : Int32) (r : Int32) (h : fnX2_rimOf n S x0 = some r) : rv_Ev mX2_rimOf 0 0 [(0, .int x0)] [] S (some (.int r)) S := by
  unfold fnX2_rimOf at h
  refine re_iloadn (pc := 0) 0 (by decide +kernel : decode cX2_rimOf 0 = .ok (.iload_n 0, 1)) rfl ?_
  refine re_iconst (pc := 1) (5 : Int32) (by decide +kernel : decode cX2_rimOf 1 = .ok (.iconst 5, 1)) (by decide) ?_
  refine re_iushr (pc := 2) (by decide +kernel : decode cX2_rimOf 2 = .ok (.iushr, 1)) ?_
  cases h
  exact re_iret (fun ty hty => by cases hty; rfl) (by decide +kernel : decode cX2_rimOf 3 = .ok (.ireturn, 1))
theorem metX2_rimOf (n : Nat) (S : rvS) (x0 : Int32) (r : Int32) (h : fnX2_rimOf n S x0 = some r) : rv_Met yX2_rimOf mX2_rimOf 0 [.int x0] S (some (.int r)) S := rv_Met.of ⟨by decide +kernel, rfl, (fun z => by first | rfl | cases z), rfl⟩ (Nat.le_of_ble_eq_true rfl) rfl (eX2_rimOf_in n S x0 r h)
noncomputable def fnX6_has (n : Nat) (S : rvS) (a0 : Nat) (x1 : Int32) : Option Int32 :=
  if x1 < 0 then (
    some (0 : Int32))
  else (
    (rv_gI S 5 a0 0).bind fun x2_ =>
    if x2_ ≤ x1 then (
      some (0 : Int32))
    else (
      some (1 : Int32)))
set_option maxRecDepth 20000 in
set_option maxHeartbeats 4000000 in
theorem eX6_has_in (n : Nat) (S : rvS) (a0 : Nat) (x1 : Int32) (r : Int32) (h : fnX6_has n S a0 x1 = some r) : rv_Ev mX6_has 0 0 [(0, .ref a0), (1, .int x1)] [] S (some (.int r)) S := by
  unfold fnX6_has at h
  refine re_iloadn (pc := 0) 1 (by decide +kernel : decode cX6_has 0 = .ok (.iload_n 1, 1)) rfl ?_
  rcases rv_if_e h with ⟨g1_, h⟩ | ⟨g1_, h⟩
  · refine re_if_lt_t (pc := 1) 16 (by decide +kernel : decode cX6_has 1 = .ok (.ifCond .lt 15, 3)) (by decide) g1_ ?_
    refine re_iconst (pc := 16) (0 : Int32) (by decide +kernel : decode cX6_has 16 = .ok (.iconst 0, 1)) (by decide) ?_
    cases h
    exact re_iret (fun ty hty => by cases hty; rfl) (by decide +kernel : decode cX6_has 17 = .ok (.ireturn, 1))
  · refine re_if_lt_f (pc := 1) 16 (by decide +kernel : decode cX6_has 1 = .ok (.ifCond .lt 15, 3)) (by decide) g1_ ?_
    refine re_iloadn (pc := 4) 1 (by decide +kernel : decode cX6_has 4 = .ok (.iload_n 1, 1)) rfl ?_
    refine re_aloadn (pc := 5) 0 (by decide +kernel : decode cX6_has 5 = .ok (.aload_n 0, 1)) rfl ?_
    obtain ⟨x2_, g3_, h⟩ := rv_b_e h
    refine re_gI (pc := 6) g3_ lfX6_25 rfl (by decide +kernel : decode cX6_has 6 = .ok (.getfield 25, 3)) ?_
    rcases rv_if_e h with ⟨g4_, h⟩ | ⟨g4_, h⟩
    · refine re_icmp_ge_t (pc := 9) 16 (by decide +kernel : decode cX6_has 9 = .ok (.if_icmp .ge 7, 3)) (by decide) g4_ ?_
      refine re_iconst (pc := 16) (0 : Int32) (by decide +kernel : decode cX6_has 16 = .ok (.iconst 0, 1)) (by decide) ?_
      cases h
      exact re_iret (fun ty hty => by cases hty; rfl) (by decide +kernel : decode cX6_has 17 = .ok (.ireturn, 1))
    · refine re_icmp_ge_f (pc := 9) 16 (by decide +kernel : decode cX6_has 9 = .ok (.if_icmp .ge 7, 3)) (by decide) g4_ ?_
      refine re_iconst (pc := 12) (1 : Int32) (by decide +kernel : decode cX6_has 12 = .ok (.iconst 1, 1)) (by decide) ?_
      refine re_goto (pc := 13) 17 (by decide +kernel : decode cX6_has 13 = .ok (.goto 4, 3)) (by decide) ?_
      cases h
      exact re_iret (fun ty hty => by cases hty; rfl) (by decide +kernel : decode cX6_has 17 = .ok (.ireturn, 1))
theorem metX6_has (n : Nat) (S : rvS) (a0 : Nat) (x1 : Int32) (r : Int32) (h : fnX6_has n S a0 x1 = some r) : rv_Met yX6_has mX6_has 0 [.ref a0, .int x1] S (some (.int r)) S := rv_Met.of ⟨by decide +kernel, rfl, (fun z => by first | rfl | cases z), rfl⟩ (Nat.le_of_ble_eq_true rfl) rfl (eX6_has_in n S a0 x1 r h)
noncomputable def fnX2_stateNow (n : Nat) (S : rvS) (a0 : Nat) (x1 : Int32) : Option Int32 :=
  (rv_ck S 5 a0).bind fun u1_ =>
  (fnX6_has n S a0 x1).bind fun x4_ =>
  if x4_ = 0 then (
    some (0 : Int32))
  else (
    (rv_gR S 5 a0 3).bind fun a7_ =>
    (rv_aI S 0 a7_ x1).bind fun x9_ =>
    (rv_gR S 5 a0 4).bind fun a11_ =>
    (rv_aI S 0 a11_ x1).bind fun x13_ =>
    (fnX2_stateOf n S x9_ x13_).bind fun x16_ =>
    some x16_)
set_option maxRecDepth 20000 in
set_option maxHeartbeats 4000000 in
theorem eX2_stateNow_in (n : Nat) (S : rvS) (a0 : Nat) (x1 : Int32) (r : Int32) (h : fnX2_stateNow n S a0 x1 = some r) : rv_Ev mX2_stateNow 1 0 [(0, .ref a0), (1, .int x1)] [] S (some (.int r)) S := by
  unfold fnX2_stateNow at h
  refine re_aloadn (pc := 0) 0 (by decide +kernel : decode cX2_stateNow 0 = .ok (.aload_n 0, 1)) rfl ?_
  refine re_iloadn (pc := 1) 1 (by decide +kernel : decode cX2_stateNow 1 = .ok (.iload_n 1, 1)) rfl ?_
  obtain ⟨u1_, g2_, h⟩ := rv_b_e h
  obtain ⟨x4_, g5_, h⟩ := rv_b_e h
  have m3_ := metX6_has n S a0 x1 _ g5_
  refine re_cV (pc := 2) [.int x1] m3_ (rv_okl.k ⟨rfl, rfl⟩) (rv_up.rf _ _) (by decide) (rv_ck_e g2_) ⟨by decide, rfl⟩ (Nat.le_of_ble_eq_true rfl) lVX2_37 rfl (by decide +kernel : decode cX2_stateNow 2 = .ok (.invokevirtual 37, 3)) ?_
  rcases rv_if_e h with ⟨g6_, h⟩ | ⟨g6_, h⟩
  · refine re_if_eq_t (pc := 5) 26 (by decide +kernel : decode cX2_stateNow 5 = .ok (.ifCond .eq 21, 3)) (by decide) g6_ ?_
    refine re_iconst (pc := 26) (0 : Int32) (by decide +kernel : decode cX2_stateNow 26 = .ok (.iconst 0, 1)) (by decide) ?_
    cases h
    exact re_iret (fun ty hty => by cases hty; rfl) (by decide +kernel : decode cX2_stateNow 27 = .ok (.ireturn, 1))
  · refine re_if_eq_f (pc := 5) 26 (by decide +kernel : decode cX2_stateNow 5 = .ok (.ifCond .eq 21, 3)) (by decide) g6_ ?_
    refine re_aloadn (pc := 8) 0 (by decide +kernel : decode cX2_stateNow 8 = .ok (.aload_n 0, 1)) rfl ?_
    obtain ⟨a7_, g8_, h⟩ := rv_b_e h
    refine re_gR (pc := 9) g8_ lfX2_41 rfl (by decide +kernel : decode cX2_stateNow 9 = .ok (.getfield 41, 3)) ?_
    refine re_iloadn (pc := 12) 1 (by decide +kernel : decode cX2_stateNow 12 = .ok (.iload_n 1, 1)) rfl ?_
    obtain ⟨x9_, g10_, h⟩ := rv_b_e h
    refine re_aI (pc := 13) g10_ (by decide +kernel : decode cX2_stateNow 13 = .ok (.iaload, 1)) ?_
    refine re_aloadn (pc := 14) 0 (by decide +kernel : decode cX2_stateNow 14 = .ok (.aload_n 0, 1)) rfl ?_
    obtain ⟨a11_, g12_, h⟩ := rv_b_e h
    refine re_gR (pc := 15) g12_ lfX2_44 rfl (by decide +kernel : decode cX2_stateNow 15 = .ok (.getfield 44, 3)) ?_
    refine re_iloadn (pc := 18) 1 (by decide +kernel : decode cX2_stateNow 18 = .ok (.iload_n 1, 1)) rfl ?_
    obtain ⟨x13_, g14_, h⟩ := rv_b_e h
    refine re_aI (pc := 19) g14_ (by decide +kernel : decode cX2_stateNow 19 = .ok (.iaload, 1)) ?_
    obtain ⟨x16_, g17_, h⟩ := rv_b_e h
    have m15_ := metX2_stateOf n S x9_ x13_ _ g17_
    refine re_cS (pc := 20) [.int x9_, .int x13_] m15_ (rv_okl.k ⟨rfl, rfl⟩) (rv_up.rf _ _) (by decide) (Nat.le_of_ble_eq_true rfl) lSX2_47 rfl (by decide +kernel : decode cX2_stateNow 20 = .ok (.invokestatic 47, 3)) ?_
    refine re_goto (pc := 23) 27 (by decide +kernel : decode cX2_stateNow 23 = .ok (.goto 4, 3)) (by decide) ?_
    cases h
    exact re_iret (fun ty hty => by cases hty; rfl) (by decide +kernel : decode cX2_stateNow 27 = .ok (.ireturn, 1))
theorem metX2_stateNow (n : Nat) (S : rvS) (a0 : Nat) (x1 : Int32) (r : Int32) (h : fnX2_stateNow n S a0 x1 = some r) : rv_Met yX2_stateNow mX2_stateNow 1 [.ref a0, .int x1] S (some (.int r)) S := rv_Met.of ⟨by decide +kernel, rfl, (fun z => by first | rfl | cases z), rfl⟩ (Nat.le_of_ble_eq_true rfl) rfl (eX2_stateNow_in n S a0 x1 r h)
noncomputable def fnX2_goers (n : Nat) (S : rvS) (a0 : Nat) (x1 : Int32) : Option Int32 :=
  (rv_gR S 8 a0 0).bind fun a1_ =>
  (fnX2_ownerOf n S x1).bind fun x4_ =>
  (fnX2_rimOf n S x1).bind fun x7_ =>
  (rv_ck S 0 a1_).bind fun u9_ =>
  (fnX1_goers n S a1_ x4_ x7_).bind fun x12_ =>
  some x12_
set_option maxRecDepth 20000 in
set_option maxHeartbeats 4000000 in
theorem eX2_goers_in (n : Nat) (S : rvS) (a0 : Nat) (x1 : Int32) (r : Int32) (h : fnX2_goers n S a0 x1 = some r) : rv_Ev mX2_goers 2 0 [(0, .ref a0), (1, .int x1)] [] S (some (.int r)) S := by
  unfold fnX2_goers at h
  refine re_aloadn (pc := 0) 0 (by decide +kernel : decode cX2_goers 0 = .ok (.aload_n 0, 1)) rfl ?_
  obtain ⟨a1_, g2_, h⟩ := rv_b_e h
  refine re_gR (pc := 1) g2_ lfX2_51 rfl (by decide +kernel : decode cX2_goers 1 = .ok (.getfield 51, 3)) ?_
  refine re_iloadn (pc := 4) 1 (by decide +kernel : decode cX2_goers 4 = .ok (.iload_n 1, 1)) rfl ?_
  obtain ⟨x4_, g5_, h⟩ := rv_b_e h
  have m3_ := metX2_ownerOf n S x1 _ g5_
  refine re_cS (pc := 5) [.int x1] m3_ (rv_okl.k ⟨rfl, rfl⟩) (rv_up.rf _ _) (by decide) (Nat.le_of_ble_eq_true rfl) lSX2_57 rfl (by decide +kernel : decode cX2_goers 5 = .ok (.invokestatic 57, 3)) ?_
  refine re_iloadn (pc := 8) 1 (by decide +kernel : decode cX2_goers 8 = .ok (.iload_n 1, 1)) rfl ?_
  obtain ⟨x7_, g8_, h⟩ := rv_b_e h
  have m6_ := metX2_rimOf n S x1 _ g8_
  refine re_cS (pc := 9) [.int x1] m6_ (rv_okl.k ⟨rfl, rfl⟩) (rv_up.rf _ _) (by decide) (Nat.le_of_ble_eq_true rfl) lSX2_61 rfl (by decide +kernel : decode cX2_goers 9 = .ok (.invokestatic 61, 3)) ?_
  obtain ⟨u9_, g10_, h⟩ := rv_b_e h
  obtain ⟨x12_, g13_, h⟩ := rv_b_e h
  have m11_ := metX1_goers n S a1_ x4_ x7_ _ g13_
  refine re_cV (pc := 12) [.int x4_, .int x7_] m11_ (rv_okl.k ⟨rfl, rfl⟩) (rv_up.rf _ _) (by decide) (rv_ck_e g10_) ⟨by decide, rfl⟩ (Nat.le_of_ble_eq_true rfl) lVX2_64 rfl (by decide +kernel : decode cX2_goers 12 = .ok (.invokevirtual 64, 3)) ?_
  cases h
  exact re_iret (fun ty hty => by cases hty; rfl) (by decide +kernel : decode cX2_goers 15 = .ok (.ireturn, 1))
theorem metX2_goers (n : Nat) (S : rvS) (a0 : Nat) (x1 : Int32) (r : Int32) (h : fnX2_goers n S a0 x1 = some r) : rv_Met yX2_goers mX2_goers 2 [.ref a0, .int x1] S (some (.int r)) S := rv_Met.of ⟨by decide +kernel, rfl, (fun z => by first | rfl | cases z), rfl⟩ (Nat.le_of_ble_eq_true rfl) rfl (eX2_goers_in n S a0 x1 r h)
noncomputable def fnX6_rimAfter (n : Nat) (S : rvS) (a0 : Nat) (x1 : Int32) (x2 : Int32) : Option Int32 :=
  (rv_gI S 5 a0 1).bind fun x1_ =>
  some (((x2 <<< ((5 : Int32) &&& 31)) ||| (x1 + (1 : Int32))) &&& (((1 : Int32) <<< (((5 : Int32) * x1_) &&& 31)) - (1 : Int32)))
set_option maxRecDepth 20000 in
set_option maxHeartbeats 4000000 in
theorem eX6_rimAfter_in (n : Nat) (S : rvS) (a0 : Nat) (x1 : Int32) (x2 : Int32) (r : Int32) (h : fnX6_rimAfter n S a0 x1 x2 = some r) : rv_Ev mX6_rimAfter 0 0 [(0, .ref a0), (1, .int x1), (2, .int x2)] [] S (some (.int r)) S := by
  unfold fnX6_rimAfter at h
  refine re_iloadn (pc := 0) 2 (by decide +kernel : decode cX6_rimAfter 0 = .ok (.iload_n 2, 1)) rfl ?_
  refine re_iconst (pc := 1) (5 : Int32) (by decide +kernel : decode cX6_rimAfter 1 = .ok (.iconst 5, 1)) (by decide) ?_
  refine re_ishl (pc := 2) (by decide +kernel : decode cX6_rimAfter 2 = .ok (.ishl, 1)) ?_
  refine re_iloadn (pc := 3) 1 (by decide +kernel : decode cX6_rimAfter 3 = .ok (.iload_n 1, 1)) rfl ?_
  refine re_iconst (pc := 4) (1 : Int32) (by decide +kernel : decode cX6_rimAfter 4 = .ok (.iconst 1, 1)) (by decide) ?_
  refine re_iadd (pc := 5) (by decide +kernel : decode cX6_rimAfter 5 = .ok (.iadd, 1)) ?_
  refine re_ior (pc := 6) (by decide +kernel : decode cX6_rimAfter 6 = .ok (.ior, 1)) ?_
  refine re_iconst (pc := 7) (1 : Int32) (by decide +kernel : decode cX6_rimAfter 7 = .ok (.iconst 1, 1)) (by decide) ?_
  refine re_iconst (pc := 8) (5 : Int32) (by decide +kernel : decode cX6_rimAfter 8 = .ok (.iconst 5, 1)) (by decide) ?_
  refine re_aloadn (pc := 9) 0 (by decide +kernel : decode cX6_rimAfter 9 = .ok (.aload_n 0, 1)) rfl ?_
  obtain ⟨x1_, g2_, h⟩ := rv_b_e h
  refine re_gI (pc := 10) g2_ lfX6_11 rfl (by decide +kernel : decode cX6_rimAfter 10 = .ok (.getfield 11, 3)) ?_
  refine re_imul (pc := 13) (by decide +kernel : decode cX6_rimAfter 13 = .ok (.imul, 1)) ?_
  refine re_ishl (pc := 14) (by decide +kernel : decode cX6_rimAfter 14 = .ok (.ishl, 1)) ?_
  refine re_iconst (pc := 15) (1 : Int32) (by decide +kernel : decode cX6_rimAfter 15 = .ok (.iconst 1, 1)) (by decide) ?_
  refine re_isub (pc := 16) (by decide +kernel : decode cX6_rimAfter 16 = .ok (.isub, 1)) ?_
  refine re_iand (pc := 17) (by decide +kernel : decode cX6_rimAfter 17 = .ok (.iand, 1)) ?_
  cases h
  exact re_iret (fun ty hty => by cases hty; rfl) (by decide +kernel : decode cX6_rimAfter 18 = .ok (.ireturn, 1))
theorem metX6_rimAfter (n : Nat) (S : rvS) (a0 : Nat) (x1 : Int32) (x2 : Int32) (r : Int32) (h : fnX6_rimAfter n S a0 x1 x2 = some r) : rv_Met yX6_rimAfter mX6_rimAfter 0 [.ref a0, .int x1, .int x2] S (some (.int r)) S := rv_Met.of ⟨by decide +kernel, rfl, (fun z => by first | rfl | cases z), rfl⟩ (Nat.le_of_ble_eq_true rfl) rfl (eX6_rimAfter_in n S a0 x1 x2 r h)
noncomputable def fnX2_after (n : Nat) (S : rvS) (a0 : Nat) (x1 : Int32) (x2 : Int32) : Option Int32 :=
  (rv_gR S 8 a0 1).bind fun a1_ =>
  (fnX2_ownerOf n S x1).bind fun x4_ =>
  (fnX2_rimOf n S x1).bind fun x7_ =>
  (rv_ck S 5 a1_).bind fun u9_ =>
  (fnX6_rimAfter n S a1_ x4_ x7_).bind fun x12_ =>
  (fnX2_stateOf n S x2 x12_).bind fun x15_ =>
  some x15_
set_option maxRecDepth 20000 in
set_option maxHeartbeats 4000000 in
theorem eX2_after_in (n : Nat) (S : rvS) (a0 : Nat) (x1 : Int32) (x2 : Int32) (r : Int32) (h : fnX2_after n S a0 x1 x2 = some r) : rv_Ev mX2_after 1 0 [(0, .ref a0), (1, .int x1), (2, .int x2)] [] S (some (.int r)) S := by
  unfold fnX2_after at h
  refine re_iloadn (pc := 0) 2 (by decide +kernel : decode cX2_after 0 = .ok (.iload_n 2, 1)) rfl ?_
  refine re_aloadn (pc := 1) 0 (by decide +kernel : decode cX2_after 1 = .ok (.aload_n 0, 1)) rfl ?_
  obtain ⟨a1_, g2_, h⟩ := rv_b_e h
  refine re_gR (pc := 2) g2_ lfX2_67 rfl (by decide +kernel : decode cX2_after 2 = .ok (.getfield 67, 3)) ?_
  refine re_iloadn (pc := 5) 1 (by decide +kernel : decode cX2_after 5 = .ok (.iload_n 1, 1)) rfl ?_
  obtain ⟨x4_, g5_, h⟩ := rv_b_e h
  have m3_ := metX2_ownerOf n S x1 _ g5_
  refine re_cS (pc := 6) [.int x1] m3_ (rv_okl.k ⟨rfl, rfl⟩) (rv_up.rf _ _) (by decide) (Nat.le_of_ble_eq_true rfl) lSX2_57 rfl (by decide +kernel : decode cX2_after 6 = .ok (.invokestatic 57, 3)) ?_
  refine re_iloadn (pc := 9) 1 (by decide +kernel : decode cX2_after 9 = .ok (.iload_n 1, 1)) rfl ?_
  obtain ⟨x7_, g8_, h⟩ := rv_b_e h
  have m6_ := metX2_rimOf n S x1 _ g8_
  refine re_cS (pc := 10) [.int x1] m6_ (rv_okl.k ⟨rfl, rfl⟩) (rv_up.rf _ _) (by decide) (Nat.le_of_ble_eq_true rfl) lSX2_61 rfl (by decide +kernel : decode cX2_after 10 = .ok (.invokestatic 61, 3)) ?_
  obtain ⟨u9_, g10_, h⟩ := rv_b_e h
  obtain ⟨x12_, g13_, h⟩ := rv_b_e h
  have m11_ := metX6_rimAfter n S a1_ x4_ x7_ _ g13_
  refine re_cV (pc := 13) [.int x4_, .int x7_] m11_ (rv_okl.k ⟨rfl, rfl⟩) (rv_up.rf _ _) (by decide) (rv_ck_e g10_) ⟨by decide, rfl⟩ (Nat.le_of_ble_eq_true rfl) lVX2_71 rfl (by decide +kernel : decode cX2_after 13 = .ok (.invokevirtual 71, 3)) ?_
  obtain ⟨x15_, g16_, h⟩ := rv_b_e h
  have m14_ := metX2_stateOf n S x2 x12_ _ g16_
  refine re_cS (pc := 16) [.int x2, .int x12_] m14_ (rv_okl.k ⟨rfl, rfl⟩) (rv_up.rf _ _) (by decide) (Nat.le_of_ble_eq_true rfl) lSX2_47 rfl (by decide +kernel : decode cX2_after 16 = .ok (.invokestatic 47, 3)) ?_
  cases h
  exact re_iret (fun ty hty => by cases hty; rfl) (by decide +kernel : decode cX2_after 19 = .ok (.ireturn, 1))
theorem metX2_after (n : Nat) (S : rvS) (a0 : Nat) (x1 : Int32) (x2 : Int32) (r : Int32) (h : fnX2_after n S a0 x1 x2 = some r) : rv_Met yX2_after mX2_after 1 [.ref a0, .int x1, .int x2] S (some (.int r)) S := rv_Met.of ⟨by decide +kernel, rfl, (fun z => by first | rfl | cases z), rfl⟩ (Nat.le_of_ble_eq_true rfl) rfl (eX2_after_in n S a0 x1 x2 r h)
noncomputable def cX2_codeOf_31 (n : Nat) (S : rvS) (a0 : Nat) (x1 : Int32) (x2 : Int32) : Option Int32 :=
  (rv_gI S 1 a0 3).bind fun x1_ =>
  (fnX2_ownerOf n S x1).bind fun x4_ =>
  some ((x2 * x1_) + x4_)
set_option maxRecDepth 20000 in
set_option maxHeartbeats 4000000 in
theorem eX2_codeOf_31 (n : Nat) (S : rvS) (a0 : Nat) (x1 : Int32) (x2 : Int32) (r : Int32) (h : cX2_codeOf_31 n S a0 x1 x2 = some r) : rv_Ev mX2_codeOf 1 31 [(0, .ref a0), (1, .int x1), (2, .int x2)] [] S (some (.int r)) S := by
  unfold cX2_codeOf_31 at h
  refine re_iloadn (pc := 31) 2 (by decide +kernel : decode cX2_codeOf 31 = .ok (.iload_n 2, 1)) rfl ?_
  refine re_aloadn (pc := 32) 0 (by decide +kernel : decode cX2_codeOf 32 = .ok (.aload_n 0, 1)) rfl ?_
  obtain ⟨x1_, g2_, h⟩ := rv_b_e h
  refine re_gI (pc := 33) g2_ lfX2_74 rfl (by decide +kernel : decode cX2_codeOf 33 = .ok (.getfield 74, 3)) ?_
  refine re_imul (pc := 36) (by decide +kernel : decode cX2_codeOf 36 = .ok (.imul, 1)) ?_
  refine re_iloadn (pc := 37) 1 (by decide +kernel : decode cX2_codeOf 37 = .ok (.iload_n 1, 1)) rfl ?_
  obtain ⟨x4_, g5_, h⟩ := rv_b_e h
  have m3_ := metX2_ownerOf n S x1 _ g5_
  refine re_cS (pc := 38) [.int x1] m3_ (rv_okl.k ⟨rfl, rfl⟩) (rv_up.rf _ _) (by decide) (Nat.le_of_ble_eq_true rfl) lSX2_57 rfl (by decide +kernel : decode cX2_codeOf 38 = .ok (.invokestatic 57, 3)) ?_
  refine re_iadd (pc := 41) (by decide +kernel : decode cX2_codeOf 41 = .ok (.iadd, 1)) ?_
  cases h
  exact re_iret (fun ty hty => by cases hty; rfl) (by decide +kernel : decode cX2_codeOf 42 = .ok (.ireturn, 1))
noncomputable def cX2_codeOf_5 (n : Nat) (S : rvS) : Nat → Nat → Int32 → Int32 → Int32 → Option Int32
  | 0, _, _, _, _ => none
  | k + 1, a0, x1, x2, x3 =>
    if x3 ≤ 0 then (
      cX2_codeOf_31 n S a0 x1 x2)
    else (
      (rv_gI S 1 a0 3).bind fun x2_ =>
      rv_lt ((x2 * (x2_ + (1 : Int32))) + (((x1.toUInt32 >>> (x3.toUInt32 &&& Int32.toUInt32 31)).toInt32) &&& (31 : Int32))) fun x4_ =>
      rv_lt (x3 + (-5)) fun x6_ =>
      cX2_codeOf_5 n S k a0 x1 x4_ x6_)
set_option maxRecDepth 20000 in
set_option maxHeartbeats 4000000 in
theorem eX2_codeOf_5 (n : Nat) (S : rvS) : ∀ (k : Nat) (a0 : Nat) (x1 : Int32) (x2 : Int32) (x3 : Int32) (r : Int32), cX2_codeOf_5 n S k a0 x1 x2 x3 = some r → rv_Ev mX2_codeOf 1 5 [(0, .ref a0), (1, .int x1), (2, .int x2), (3, .int x3)] [] S (some (.int r)) S := by
  intro k
  induction k with
  | zero => intro a0 x1 x2 x3 r h; exact absurd h (by simp [cX2_codeOf_5])
  | succ k ih =>
    intro a0 x1 x2 x3 r h
    unfold cX2_codeOf_5 at h
    refine re_iloadn (pc := 5) 3 (by decide +kernel : decode cX2_codeOf 5 = .ok (.iload_n 3, 1)) rfl ?_
    rcases rv_if_e h with ⟨g1_, h⟩ | ⟨g1_, h⟩
    · refine re_if_le_t (pc := 6) 31 (by decide +kernel : decode cX2_codeOf 6 = .ok (.ifCond .le 25, 3)) (by decide) g1_ ?_
      refine re_sub [0, 1, 2] (lv1 := [(0, .ref a0), (1, .int x1), (2, .int x2)]) rfl ?_
      exact eX2_codeOf_31 n S a0 x1 x2 _ h
    · refine re_if_le_f (pc := 6) 31 (by decide +kernel : decode cX2_codeOf 6 = .ok (.ifCond .le 25, 3)) (by decide) g1_ ?_
      refine re_iloadn (pc := 9) 2 (by decide +kernel : decode cX2_codeOf 9 = .ok (.iload_n 2, 1)) rfl ?_
      refine re_aloadn (pc := 10) 0 (by decide +kernel : decode cX2_codeOf 10 = .ok (.aload_n 0, 1)) rfl ?_
      obtain ⟨x2_, g3_, h⟩ := rv_b_e h
      refine re_gI (pc := 11) g3_ lfX2_74 rfl (by decide +kernel : decode cX2_codeOf 11 = .ok (.getfield 74, 3)) ?_
      refine re_iconst (pc := 14) (1 : Int32) (by decide +kernel : decode cX2_codeOf 14 = .ok (.iconst 1, 1)) (by decide) ?_
      refine re_iadd (pc := 15) (by decide +kernel : decode cX2_codeOf 15 = .ok (.iadd, 1)) ?_
      refine re_imul (pc := 16) (by decide +kernel : decode cX2_codeOf 16 = .ok (.imul, 1)) ?_
      refine re_iloadn (pc := 17) 1 (by decide +kernel : decode cX2_codeOf 17 = .ok (.iload_n 1, 1)) rfl ?_
      refine re_iloadn (pc := 18) 3 (by decide +kernel : decode cX2_codeOf 18 = .ok (.iload_n 3, 1)) rfl ?_
      refine re_iushr (pc := 19) (by decide +kernel : decode cX2_codeOf 19 = .ok (.iushr, 1)) ?_
      refine re_bipush (pc := 20) (31 : Int32) (by decide +kernel : decode cX2_codeOf 20 = .ok (.bipush 31, 2)) (by decide) ?_
      refine re_iand (pc := 22) (by decide +kernel : decode cX2_codeOf 22 = .ok (.iand, 1)) ?_
      refine re_iadd (pc := 23) (by decide +kernel : decode cX2_codeOf 23 = .ok (.iadd, 1)) ?_
      obtain ⟨x4_, g5_, h⟩ := rv_lt_e h
      refine re_nI (pc := 24) g5_ ?_
      refine re_istoren (pc := 24) (lv1 := [(2, .int x4_), (0, .ref a0), (1, .int x1), (3, .int x3)]) (by decide +kernel : decode cX2_codeOf 24 = .ok (.istore_n 2, 1)) rfl (by decide) rfl ?_
      obtain ⟨x6_, g7_, h⟩ := rv_lt_e h
      refine re_iinc (pc := 25) 3 x6_ (lv1 := [(3, .int x6_), (2, .int x4_), (0, .ref a0), (1, .int x1)]) (by decide +kernel : decode cX2_codeOf 25 = .ok (.iinc 3 (-5), 3)) rfl g7_ (by decide) rfl ?_
      refine re_goto (pc := 28) 5 (by decide +kernel : decode cX2_codeOf 28 = .ok (.goto (-23), 3)) (by decide) ?_
      refine re_sub [2, 3, 1, 0] (lv1 := [(0, .ref a0), (1, .int x1), (2, .int x4_), (3, .int x6_)]) rfl ?_
      exact ih a0 x1 x4_ x6_ _ h
noncomputable def fnX2_codeOf (n : Nat) (S : rvS) (a0 : Nat) (x1 : Int32) : Option Int32 :=
  cX2_codeOf_5 n S n a0 x1 (0 : Int32) (15 : Int32)
set_option maxRecDepth 20000 in
set_option maxHeartbeats 4000000 in
theorem eX2_codeOf_in (n : Nat) (S : rvS) (a0 : Nat) (x1 : Int32) (r : Int32) (h : fnX2_codeOf n S a0 x1 = some r) : rv_Ev mX2_codeOf 1 0 [(0, .ref a0), (1, .int x1)] [] S (some (.int r)) S := by
  unfold fnX2_codeOf at h
  refine re_iconst (pc := 0) (0 : Int32) (by decide +kernel : decode cX2_codeOf 0 = .ok (.iconst 0, 1)) (by decide) ?_
  refine re_istoren (pc := 1) (lv1 := [(2, .int (0 : Int32)), (0, .ref a0), (1, .int x1)]) (by decide +kernel : decode cX2_codeOf 1 = .ok (.istore_n 2, 1)) rfl (by decide) rfl ?_
  refine re_bipush (pc := 2) (15 : Int32) (by decide +kernel : decode cX2_codeOf 2 = .ok (.bipush 15, 2)) (by decide) ?_
  refine re_istoren (pc := 4) (lv1 := [(3, .int (15 : Int32)), (2, .int (0 : Int32)), (0, .ref a0), (1, .int x1)]) (by decide +kernel : decode cX2_codeOf 4 = .ok (.istore_n 3, 1)) rfl (by decide) rfl ?_
  refine re_sub [2, 3, 1, 0] (lv1 := [(0, .ref a0), (1, .int x1), (2, .int (0 : Int32)), (3, .int (15 : Int32))]) rfl ?_
  exact eX2_codeOf_5 n S n a0 x1 (0 : Int32) (15 : Int32) _ h
theorem metX2_codeOf (n : Nat) (S : rvS) (a0 : Nat) (x1 : Int32) (r : Int32) (h : fnX2_codeOf n S a0 x1 = some r) : rv_Met yX2_codeOf mX2_codeOf 1 [.ref a0, .int x1] S (some (.int r)) S := rv_Met.of ⟨by decide +kernel, rfl, (fun z => by first | rfl | cases z), rfl⟩ (Nat.le_of_ble_eq_true rfl) rfl (eX2_codeOf_in n S a0 x1 r h)
noncomputable def cX2_begin_44 (n : Nat) : Nat → rvS → Nat → Int32 → Int32 → Option rvS
  | 0, _, _, _, _ => none
  | k + 1, S, a0, x2, x3 =>
    if x2 ≤ x3 then (
      some S)
    else (
      if (5860 : Int32) ≤ x3 then (
        some S)
      else (
        (rv_gR S 1 a0 0).bind fun a3_ =>
        (rv_uL S a3_ x3 (0 : Int64)).bind fun S5_ =>
        (rv_gR S5_ 1 a0 1).bind fun a7_ =>
        (rv_uL S5_ a7_ x3 (0 : Int64)).bind fun S9_ =>
        rv_lt (x3 + (1)) fun x11_ =>
        cX2_begin_44 n k S9_ a0 x2 x11_))
set_option maxRecDepth 20000 in
set_option maxHeartbeats 4000000 in
theorem eX2_begin_44 (n : Nat) : ∀ (k : Nat) (S : rvS) (a0 : Nat) (x2 : Int32) (x3 : Int32) (S' : rvS), cX2_begin_44 n k S a0 x2 x3 = some S' → rv_Ev mX2_begin 0 44 [(0, .ref a0), (2, .int x2), (3, .int x3)] [] S none S' := by
  intro k
  induction k with
  | zero => intro S a0 x2 x3 S' h; exact absurd h (by simp [cX2_begin_44])
  | succ k ih =>
    intro S a0 x2 x3 S' h
    unfold cX2_begin_44 at h
    refine re_iloadn (pc := 44) 2 (by decide +kernel : decode cX2_begin 44 = .ok (.iload_n 3, 1)) rfl ?_
    refine re_iloadn (pc := 45) 1 (by decide +kernel : decode cX2_begin 45 = .ok (.iload_n 2, 1)) rfl ?_
    rcases rv_if_e h with ⟨g1_, h⟩ | ⟨g1_, h⟩
    · refine re_icmp_ge_t (pc := 46) 76 (by decide +kernel : decode cX2_begin 46 = .ok (.if_icmp .ge 30, 3)) (by decide) g1_ ?_
      cases h
      exact re_vret (by decide +kernel : decode cX2_begin 76 = .ok (.return_, 1))
    · refine re_icmp_ge_f (pc := 46) 76 (by decide +kernel : decode cX2_begin 46 = .ok (.if_icmp .ge 30, 3)) (by decide) g1_ ?_
      refine re_iloadn (pc := 49) 2 (by decide +kernel : decode cX2_begin 49 = .ok (.iload_n 3, 1)) rfl ?_
      refine re_sipush (pc := 50) (5860 : Int32) (by decide +kernel : decode cX2_begin 50 = .ok (.sipush 5860, 3)) (by decide) ?_
      rcases rv_if_e h with ⟨g2_, h⟩ | ⟨g2_, h⟩
      · refine re_icmp_ge_t (pc := 53) 76 (by decide +kernel : decode cX2_begin 53 = .ok (.if_icmp .ge 23, 3)) (by decide) g2_ ?_
        cases h
        exact re_vret (by decide +kernel : decode cX2_begin 76 = .ok (.return_, 1))
      · refine re_icmp_ge_f (pc := 53) 76 (by decide +kernel : decode cX2_begin 53 = .ok (.if_icmp .ge 23, 3)) (by decide) g2_ ?_
        refine re_aloadn (pc := 56) 0 (by decide +kernel : decode cX2_begin 56 = .ok (.aload_n 0, 1)) rfl ?_
        obtain ⟨a3_, g4_, h⟩ := rv_b_e h
        refine re_gR (pc := 57) g4_ lfX2_15 rfl (by decide +kernel : decode cX2_begin 57 = .ok (.getfield 15, 3)) ?_
        refine re_iloadn (pc := 60) 2 (by decide +kernel : decode cX2_begin 60 = .ok (.iload_n 3, 1)) rfl ?_
        refine re_lconst (pc := 61) (0 : Int64) (by decide +kernel : decode cX2_begin 61 = .ok (.lconst 0, 1)) (by decide) ?_
        obtain ⟨S5_, g6_, h⟩ := rv_b_e h
        refine re_uL (pc := 62) g6_ (by decide +kernel : decode cX2_begin 62 = .ok (.lastore, 1)) ?_
        refine re_aloadn (pc := 63) 0 (by decide +kernel : decode cX2_begin 63 = .ok (.aload_n 0, 1)) rfl ?_
        obtain ⟨a7_, g8_, h⟩ := rv_b_e h
        refine re_gR (pc := 64) g8_ lfX2_19 rfl (by decide +kernel : decode cX2_begin 64 = .ok (.getfield 19, 3)) ?_
        refine re_iloadn (pc := 67) 2 (by decide +kernel : decode cX2_begin 67 = .ok (.iload_n 3, 1)) rfl ?_
        refine re_lconst (pc := 68) (0 : Int64) (by decide +kernel : decode cX2_begin 68 = .ok (.lconst 0, 1)) (by decide) ?_
        obtain ⟨S9_, g10_, h⟩ := rv_b_e h
        refine re_uL (pc := 69) g10_ (by decide +kernel : decode cX2_begin 69 = .ok (.lastore, 1)) ?_
        obtain ⟨x11_, g12_, h⟩ := rv_lt_e h
        refine re_iinc (pc := 70) 2 x11_ (lv1 := [(3, .int x11_), (0, .ref a0), (2, .int x2)]) (by decide +kernel : decode cX2_begin 70 = .ok (.iinc 3 1, 3)) rfl g12_ (by decide) rfl ?_
        refine re_goto (pc := 73) 44 (by decide +kernel : decode cX2_begin 73 = .ok (.goto (-29), 3)) (by decide) ?_
        refine re_sub [1, 2, 0] (lv1 := [(0, .ref a0), (2, .int x2), (3, .int x11_)]) rfl ?_
        exact ih S9_ a0 x2 x11_ _ h
noncomputable def fnX2_begin (n : Nat) (S : rvS) (a0 : Nat) (a1 : Nat) : Option rvS :=
  (rv_gR S 8 a1 0).bind fun a1_ =>
  (rv_gI S 0 a1_ 0).bind fun x3_ =>
  (rv_pI S 1 a0 3 x3_).bind fun S5_ =>
  (rv_gI S5_ 1 a0 3).bind fun x7_ =>
  (rv_gI S5_ 1 a0 3).bind fun x9_ =>
  (rv_gI S5_ 1 a0 3).bind fun x11_ =>
  (rv_gI S5_ 1 a0 3).bind fun x13_ =>
  (rv_nz (64 : Int32)).bind fun u15_ =>
  rv_lt (((((x7_ * (x9_ + (1 : Int32))) * (x11_ + (1 : Int32))) * (x13_ + (1 : Int32))) / (64 : Int32)) + (1 : Int32)) fun x17_ =>
  cX2_begin_44 n n S5_ a0 x17_ (0 : Int32)
set_option maxRecDepth 20000 in
set_option maxHeartbeats 4000000 in
theorem eX2_begin_in (n : Nat) (S : rvS) (a0 : Nat) (a1 : Nat) (S' : rvS) (h : fnX2_begin n S a0 a1 = some S') : rv_Ev mX2_begin 0 0 [(0, .ref a0), (1, .ref a1)] [] S none S' := by
  unfold fnX2_begin at h
  refine re_aloadn (pc := 0) 0 (by decide +kernel : decode cX2_begin 0 = .ok (.aload_n 0, 1)) rfl ?_
  refine re_aloadn (pc := 1) 1 (by decide +kernel : decode cX2_begin 1 = .ok (.aload_n 1, 1)) rfl ?_
  obtain ⟨a1_, g2_, h⟩ := rv_b_e h
  refine re_gR (pc := 2) g2_ lfX2_51 rfl (by decide +kernel : decode cX2_begin 2 = .ok (.getfield 51, 3)) ?_
  obtain ⟨x3_, g4_, h⟩ := rv_b_e h
  refine re_gI (pc := 5) g4_ lfX2_78 rfl (by decide +kernel : decode cX2_begin 5 = .ok (.getfield 78, 3)) ?_
  obtain ⟨S5_, g6_, h⟩ := rv_b_e h
  refine re_pI (pc := 8) g6_ lfX2_74 rfl rfl rfl rfl (by decide +kernel : decode cX2_begin 8 = .ok (.putfield 74, 3)) ?_
  refine re_aloadn (pc := 11) 0 (by decide +kernel : decode cX2_begin 11 = .ok (.aload_n 0, 1)) rfl ?_
  obtain ⟨x7_, g8_, h⟩ := rv_b_e h
  refine re_gI (pc := 12) g8_ lfX2_74 rfl (by decide +kernel : decode cX2_begin 12 = .ok (.getfield 74, 3)) ?_
  refine re_aloadn (pc := 15) 0 (by decide +kernel : decode cX2_begin 15 = .ok (.aload_n 0, 1)) rfl ?_
  obtain ⟨x9_, g10_, h⟩ := rv_b_e h
  refine re_gI (pc := 16) g10_ lfX2_74 rfl (by decide +kernel : decode cX2_begin 16 = .ok (.getfield 74, 3)) ?_
  refine re_iconst (pc := 19) (1 : Int32) (by decide +kernel : decode cX2_begin 19 = .ok (.iconst 1, 1)) (by decide) ?_
  refine re_iadd (pc := 20) (by decide +kernel : decode cX2_begin 20 = .ok (.iadd, 1)) ?_
  refine re_imul (pc := 21) (by decide +kernel : decode cX2_begin 21 = .ok (.imul, 1)) ?_
  refine re_aloadn (pc := 22) 0 (by decide +kernel : decode cX2_begin 22 = .ok (.aload_n 0, 1)) rfl ?_
  obtain ⟨x11_, g12_, h⟩ := rv_b_e h
  refine re_gI (pc := 23) g12_ lfX2_74 rfl (by decide +kernel : decode cX2_begin 23 = .ok (.getfield 74, 3)) ?_
  refine re_iconst (pc := 26) (1 : Int32) (by decide +kernel : decode cX2_begin 26 = .ok (.iconst 1, 1)) (by decide) ?_
  refine re_iadd (pc := 27) (by decide +kernel : decode cX2_begin 27 = .ok (.iadd, 1)) ?_
  refine re_imul (pc := 28) (by decide +kernel : decode cX2_begin 28 = .ok (.imul, 1)) ?_
  refine re_aloadn (pc := 29) 0 (by decide +kernel : decode cX2_begin 29 = .ok (.aload_n 0, 1)) rfl ?_
  obtain ⟨x13_, g14_, h⟩ := rv_b_e h
  refine re_gI (pc := 30) g14_ lfX2_74 rfl (by decide +kernel : decode cX2_begin 30 = .ok (.getfield 74, 3)) ?_
  refine re_iconst (pc := 33) (1 : Int32) (by decide +kernel : decode cX2_begin 33 = .ok (.iconst 1, 1)) (by decide) ?_
  refine re_iadd (pc := 34) (by decide +kernel : decode cX2_begin 34 = .ok (.iadd, 1)) ?_
  refine re_imul (pc := 35) (by decide +kernel : decode cX2_begin 35 = .ok (.imul, 1)) ?_
  refine re_bipush (pc := 36) (64 : Int32) (by decide +kernel : decode cX2_begin 36 = .ok (.bipush 64, 2)) (by decide) ?_
  obtain ⟨u15_, g16_, h⟩ := rv_b_e h
  refine re_idiv (pc := 38) (by decide +kernel : decode cX2_begin 38 = .ok (.idiv, 1)) (rv_nz_e g16_) ?_
  refine re_iconst (pc := 39) (1 : Int32) (by decide +kernel : decode cX2_begin 39 = .ok (.iconst 1, 1)) (by decide) ?_
  refine re_iadd (pc := 40) (by decide +kernel : decode cX2_begin 40 = .ok (.iadd, 1)) ?_
  obtain ⟨x17_, g18_, h⟩ := rv_lt_e h
  refine re_nI (pc := 41) g18_ ?_
  refine re_istoren (pc := 41) (lv1 := [(2, .int x17_), (0, .ref a0), (1, .ref a1)]) (by decide +kernel : decode cX2_begin 41 = .ok (.istore_n 2, 1)) rfl (by decide) rfl ?_
  refine re_iconst (pc := 42) (0 : Int32) (by decide +kernel : decode cX2_begin 42 = .ok (.iconst 0, 1)) (by decide) ?_
  refine re_istoren (pc := 43) (lv1 := [(3, .int (0 : Int32)), (2, .int x17_), (0, .ref a0), (1, .ref a1)]) (by decide +kernel : decode cX2_begin 43 = .ok (.istore_n 3, 1)) rfl (by decide) rfl ?_
  refine re_sub [2, 1, 0] (lv1 := [(0, .ref a0), (2, .int x17_), (3, .int (0 : Int32))]) rfl ?_
  exact eX2_begin_44 n n S5_ a0 x17_ (0 : Int32) _ h
theorem metX2_begin (n : Nat) (S : rvS) (a0 : Nat) (a1 : Nat) (S' : rvS) (h : fnX2_begin n S a0 a1 = some S') : rv_Met yX2_begin mX2_begin 0 [.ref a0, .ref a1] S none S' := rv_Met.of ⟨by decide +kernel, rfl, (fun z => by first | rfl | cases z), rfl⟩ (Nat.le_of_ble_eq_true rfl) rfl (eX2_begin_in n S a0 a1 S' h)
noncomputable def fnX2_isIn (n : Nat) (S : rvS) (a0 : Nat) (x1 : Int32) : Option Int32 :=
  rv_lt (x1 >>> ((6 : Int32) &&& 31)) fun x1_ =>
  if x1_ < 0 then (
    some (0 : Int32))
  else (
    (rv_ln S 1 a0).bind fun l4_ =>
    if (Int32.ofNat l4_) ≤ x1_ then (
      some (0 : Int32))
    else (
      (rv_aL S a0 x1_).bind fun x7_ =>
      if (lg_cmp (((x7_.toUInt64 >>> ((x1 &&& (63 : Int32)).toInt64.toUInt64 &&& Int64.toUInt64 63)).toInt64) &&& (1 : Int64)) (0 : Int64)) = 0 then (
        some (0 : Int32))
      else (
        some (1 : Int32))))
set_option maxRecDepth 20000 in
set_option maxHeartbeats 4000000 in
theorem eX2_isIn_in (n : Nat) (S : rvS) (a0 : Nat) (x1 : Int32) (r : Int32) (h : fnX2_isIn n S a0 x1 = some r) : rv_Ev mX2_isIn 0 0 [(0, .ref a0), (1, .int x1)] [] S (some (.int r)) S := by
  unfold fnX2_isIn at h
  refine re_iloadn (pc := 0) 1 (by decide +kernel : decode cX2_isIn 0 = .ok (.iload_n 1, 1)) rfl ?_
  refine re_bipush (pc := 1) (6 : Int32) (by decide +kernel : decode cX2_isIn 1 = .ok (.bipush 6, 2)) (by decide) ?_
  refine re_ishr (pc := 3) (by decide +kernel : decode cX2_isIn 3 = .ok (.ishr, 1)) ?_
  obtain ⟨x1_, g2_, h⟩ := rv_lt_e h
  refine re_nI (pc := 4) g2_ ?_
  refine re_istoren (pc := 4) (lv1 := [(2, .int x1_), (0, .ref a0), (1, .int x1)]) (by decide +kernel : decode cX2_isIn 4 = .ok (.istore_n 2, 1)) rfl (by decide) rfl ?_
  refine re_iloadn (pc := 5) 0 (by decide +kernel : decode cX2_isIn 5 = .ok (.iload_n 2, 1)) rfl ?_
  rcases rv_if_e h with ⟨g3_, h⟩ | ⟨g3_, h⟩
  · refine re_if_lt_t (pc := 6) 34 (by decide +kernel : decode cX2_isIn 6 = .ok (.ifCond .lt 28, 3)) (by decide) g3_ ?_
    refine re_iconst (pc := 34) (0 : Int32) (by decide +kernel : decode cX2_isIn 34 = .ok (.iconst 0, 1)) (by decide) ?_
    cases h
    exact re_iret (fun ty hty => by cases hty; rfl) (by decide +kernel : decode cX2_isIn 35 = .ok (.ireturn, 1))
  · refine re_if_lt_f (pc := 6) 34 (by decide +kernel : decode cX2_isIn 6 = .ok (.ifCond .lt 28, 3)) (by decide) g3_ ?_
    refine re_iloadn (pc := 9) 0 (by decide +kernel : decode cX2_isIn 9 = .ok (.iload_n 2, 1)) rfl ?_
    refine re_aloadn (pc := 10) 1 (by decide +kernel : decode cX2_isIn 10 = .ok (.aload_n 0, 1)) rfl ?_
    obtain ⟨l4_, g5_, h⟩ := rv_b_e h
    refine re_alen (pc := 11) (t := 1) (by decide) (rv_ln_e g5_) (by decide +kernel : decode cX2_isIn 11 = .ok (.arraylength, 1)) ?_
    rcases rv_if_e h with ⟨g6_, h⟩ | ⟨g6_, h⟩
    · refine re_icmp_ge_t (pc := 12) 34 (by decide +kernel : decode cX2_isIn 12 = .ok (.if_icmp .ge 22, 3)) (by decide) g6_ ?_
      refine re_iconst (pc := 34) (0 : Int32) (by decide +kernel : decode cX2_isIn 34 = .ok (.iconst 0, 1)) (by decide) ?_
      cases h
      exact re_iret (fun ty hty => by cases hty; rfl) (by decide +kernel : decode cX2_isIn 35 = .ok (.ireturn, 1))
    · refine re_icmp_ge_f (pc := 12) 34 (by decide +kernel : decode cX2_isIn 12 = .ok (.if_icmp .ge 22, 3)) (by decide) g6_ ?_
      refine re_aloadn (pc := 15) 1 (by decide +kernel : decode cX2_isIn 15 = .ok (.aload_n 0, 1)) rfl ?_
      refine re_iloadn (pc := 16) 0 (by decide +kernel : decode cX2_isIn 16 = .ok (.iload_n 2, 1)) rfl ?_
      obtain ⟨x7_, g8_, h⟩ := rv_b_e h
      refine re_aL (pc := 17) g8_ (by decide +kernel : decode cX2_isIn 17 = .ok (.laload, 1)) ?_
      refine re_iloadn (pc := 18) 2 (by decide +kernel : decode cX2_isIn 18 = .ok (.iload_n 1, 1)) rfl ?_
      refine re_bipush (pc := 19) (63 : Int32) (by decide +kernel : decode cX2_isIn 19 = .ok (.bipush 63, 2)) (by decide) ?_
      refine re_iand (pc := 21) (by decide +kernel : decode cX2_isIn 21 = .ok (.iand, 1)) ?_
      refine re_lushr (pc := 22) (by decide +kernel : decode cX2_isIn 22 = .ok (.lushr, 1)) ?_
      refine re_lconst (pc := 23) (1 : Int64) (by decide +kernel : decode cX2_isIn 23 = .ok (.lconst 1, 1)) (by decide) ?_
      refine re_land (pc := 24) (by decide +kernel : decode cX2_isIn 24 = .ok (.land, 1)) ?_
      refine re_lconst (pc := 25) (0 : Int64) (by decide +kernel : decode cX2_isIn 25 = .ok (.lconst 0, 1)) (by decide) ?_
      refine re_lcmp (pc := 26) (by decide +kernel : decode cX2_isIn 26 = .ok (.lcmp, 1)) ?_
      rcases rv_if_e h with ⟨g9_, h⟩ | ⟨g9_, h⟩
      · refine re_if_eq_t (pc := 27) 34 (by decide +kernel : decode cX2_isIn 27 = .ok (.ifCond .eq 7, 3)) (by decide) g9_ ?_
        refine re_iconst (pc := 34) (0 : Int32) (by decide +kernel : decode cX2_isIn 34 = .ok (.iconst 0, 1)) (by decide) ?_
        cases h
        exact re_iret (fun ty hty => by cases hty; rfl) (by decide +kernel : decode cX2_isIn 35 = .ok (.ireturn, 1))
      · refine re_if_eq_f (pc := 27) 34 (by decide +kernel : decode cX2_isIn 27 = .ok (.ifCond .eq 7, 3)) (by decide) g9_ ?_
        refine re_iconst (pc := 30) (1 : Int32) (by decide +kernel : decode cX2_isIn 30 = .ok (.iconst 1, 1)) (by decide) ?_
        refine re_goto (pc := 31) 35 (by decide +kernel : decode cX2_isIn 31 = .ok (.goto 4, 3)) (by decide) ?_
        cases h
        exact re_iret (fun ty hty => by cases hty; rfl) (by decide +kernel : decode cX2_isIn 35 = .ok (.ireturn, 1))
theorem metX2_isIn (n : Nat) (S : rvS) (a0 : Nat) (x1 : Int32) (r : Int32) (h : fnX2_isIn n S a0 x1 = some r) : rv_Met yX2_isIn mX2_isIn 0 [.ref a0, .int x1] S (some (.int r)) S := rv_Met.of ⟨by decide +kernel, rfl, (fun z => by first | rfl | cases z), rfl⟩ (Nat.le_of_ble_eq_true rfl) rfl (eX2_isIn_in n S a0 x1 r h)
noncomputable def fnX2_put (n : Nat) (S : rvS) (a0 : Nat) (x1 : Int32) (x2 : Int32) : Option rvS :=
  rv_lt (x1 >>> ((6 : Int32) &&& 31)) fun x1_ =>
  if x1_ < 0 then (
    some S)
  else (
    (rv_ln S 1 a0).bind fun l4_ =>
    if (Int32.ofNat l4_) ≤ x1_ then (
      some S)
    else (
      rv_lt ((1 : Int64) <<< ((x1 &&& (63 : Int32)).toInt64 &&& 63)) fun x7_ =>
      if x2 = 0 then (
        (rv_aL S a0 x1_).bind fun x10_ =>
        (rv_uL S a0 x1_ (x10_ &&& (x7_ ^^^ (-1 : Int64)))).bind fun S12_ =>
        some S12_)
      else (
        (rv_aL S a0 x1_).bind fun x14_ =>
        (rv_uL S a0 x1_ (x14_ ||| x7_)).bind fun S16_ =>
        some S16_)))
set_option maxRecDepth 20000 in
set_option maxHeartbeats 4000000 in
theorem eX2_put_in (n : Nat) (S : rvS) (a0 : Nat) (x1 : Int32) (x2 : Int32) (S' : rvS) (h : fnX2_put n S a0 x1 x2 = some S') : rv_Ev mX2_put 0 0 [(0, .ref a0), (1, .int x1), (2, .int x2)] [] S none S' := by
  unfold fnX2_put at h
  refine re_iloadn (pc := 0) 1 (by decide +kernel : decode cX2_put 0 = .ok (.iload_n 1, 1)) rfl ?_
  refine re_bipush (pc := 1) (6 : Int32) (by decide +kernel : decode cX2_put 1 = .ok (.bipush 6, 2)) (by decide) ?_
  refine re_ishr (pc := 3) (by decide +kernel : decode cX2_put 3 = .ok (.ishr, 1)) ?_
  obtain ⟨x1_, g2_, h⟩ := rv_lt_e h
  refine re_nI (pc := 4) g2_ ?_
  refine re_istoren (pc := 4) (lv1 := [(3, .int x1_), (0, .ref a0), (1, .int x1), (2, .int x2)]) (by decide +kernel : decode cX2_put 4 = .ok (.istore_n 3, 1)) rfl (by decide) rfl ?_
  refine re_iloadn (pc := 5) 0 (by decide +kernel : decode cX2_put 5 = .ok (.iload_n 3, 1)) rfl ?_
  rcases rv_if_e h with ⟨g3_, h⟩ | ⟨g3_, h⟩
  · refine re_if_lt_t (pc := 6) 49 (by decide +kernel : decode cX2_put 6 = .ok (.ifCond .lt 43, 3)) (by decide) g3_ ?_
    cases h
    exact re_vret (by decide +kernel : decode cX2_put 49 = .ok (.return_, 1))
  · refine re_if_lt_f (pc := 6) 49 (by decide +kernel : decode cX2_put 6 = .ok (.ifCond .lt 43, 3)) (by decide) g3_ ?_
    refine re_iloadn (pc := 9) 0 (by decide +kernel : decode cX2_put 9 = .ok (.iload_n 3, 1)) rfl ?_
    refine re_aloadn (pc := 10) 1 (by decide +kernel : decode cX2_put 10 = .ok (.aload_n 0, 1)) rfl ?_
    obtain ⟨l4_, g5_, h⟩ := rv_b_e h
    refine re_alen (pc := 11) (t := 1) (by decide) (rv_ln_e g5_) (by decide +kernel : decode cX2_put 11 = .ok (.arraylength, 1)) ?_
    rcases rv_if_e h with ⟨g6_, h⟩ | ⟨g6_, h⟩
    · refine re_icmp_ge_t (pc := 12) 49 (by decide +kernel : decode cX2_put 12 = .ok (.if_icmp .ge 37, 3)) (by decide) g6_ ?_
      cases h
      exact re_vret (by decide +kernel : decode cX2_put 49 = .ok (.return_, 1))
    · refine re_icmp_ge_f (pc := 12) 49 (by decide +kernel : decode cX2_put 12 = .ok (.if_icmp .ge 37, 3)) (by decide) g6_ ?_
      refine re_lconst (pc := 15) (1 : Int64) (by decide +kernel : decode cX2_put 15 = .ok (.lconst 1, 1)) (by decide) ?_
      refine re_iloadn (pc := 16) 2 (by decide +kernel : decode cX2_put 16 = .ok (.iload_n 1, 1)) rfl ?_
      refine re_bipush (pc := 17) (63 : Int32) (by decide +kernel : decode cX2_put 17 = .ok (.bipush 63, 2)) (by decide) ?_
      refine re_iand (pc := 19) (by decide +kernel : decode cX2_put 19 = .ok (.iand, 1)) ?_
      refine re_lshl (pc := 20) (by decide +kernel : decode cX2_put 20 = .ok (.lshl, 1)) ?_
      obtain ⟨x7_, g8_, h⟩ := rv_lt_e h
      refine re_nL (pc := 21) g8_ ?_
      refine re_lstore (pc := 21) (lv1 := [(4, .long x7_), (3, .int x1_), (0, .ref a0), (1, .int x1), (2, .int x2)]) (by decide +kernel : decode cX2_put 21 = .ok (.lstore 4, 2)) (by decide) rfl ?_
      refine re_aloadn (pc := 23) 2 (by decide +kernel : decode cX2_put 23 = .ok (.aload_n 0, 1)) rfl ?_
      refine re_iloadn (pc := 24) 1 (by decide +kernel : decode cX2_put 24 = .ok (.iload_n 3, 1)) rfl ?_
      refine re_iloadn (pc := 25) 4 (by decide +kernel : decode cX2_put 25 = .ok (.iload_n 2, 1)) rfl ?_
      rcases rv_if_e h with ⟨g9_, h⟩ | ⟨g9_, h⟩
      · refine re_if_eq_t (pc := 26) 38 (by decide +kernel : decode cX2_put 26 = .ok (.ifCond .eq 12, 3)) (by decide) g9_ ?_
        refine re_aloadn (pc := 38) 2 (by decide +kernel : decode cX2_put 38 = .ok (.aload_n 0, 1)) rfl ?_
        refine re_iloadn (pc := 39) 1 (by decide +kernel : decode cX2_put 39 = .ok (.iload_n 3, 1)) rfl ?_
        obtain ⟨x10_, g11_, h⟩ := rv_b_e h
        refine re_aL (pc := 40) g11_ (by decide +kernel : decode cX2_put 40 = .ok (.laload, 1)) ?_
        refine re_lload (pc := 41) 0 (by decide +kernel : decode cX2_put 41 = .ok (.lload 4, 2)) rfl ?_
        refine re_ldc2 (pc := 43) (v := -1) (rw5 45 (by decide +kernel) rfl) (by decide +kernel : decode cX2_put 43 = .ok (.ldc2_w 81, 3)) ?_
        refine re_lxor (pc := 46) (by decide +kernel : decode cX2_put 46 = .ok (.lxor, 1)) ?_
        refine re_land (pc := 47) (by decide +kernel : decode cX2_put 47 = .ok (.land, 1)) ?_
        obtain ⟨S12_, g13_, h⟩ := rv_b_e h
        refine re_uL (pc := 48) g13_ (by decide +kernel : decode cX2_put 48 = .ok (.lastore, 1)) ?_
        cases h
        exact re_vret (by decide +kernel : decode cX2_put 49 = .ok (.return_, 1))
      · refine re_if_eq_f (pc := 26) 38 (by decide +kernel : decode cX2_put 26 = .ok (.ifCond .eq 12, 3)) (by decide) g9_ ?_
        refine re_aloadn (pc := 29) 2 (by decide +kernel : decode cX2_put 29 = .ok (.aload_n 0, 1)) rfl ?_
        refine re_iloadn (pc := 30) 1 (by decide +kernel : decode cX2_put 30 = .ok (.iload_n 3, 1)) rfl ?_
        obtain ⟨x14_, g15_, h⟩ := rv_b_e h
        refine re_aL (pc := 31) g15_ (by decide +kernel : decode cX2_put 31 = .ok (.laload, 1)) ?_
        refine re_lload (pc := 32) 0 (by decide +kernel : decode cX2_put 32 = .ok (.lload 4, 2)) rfl ?_
        refine re_lor (pc := 34) (by decide +kernel : decode cX2_put 34 = .ok (.lor, 1)) ?_
        refine re_goto (pc := 35) 48 (by decide +kernel : decode cX2_put 35 = .ok (.goto 13, 3)) (by decide) ?_
        obtain ⟨S16_, g17_, h⟩ := rv_b_e h
        refine re_uL (pc := 48) g17_ (by decide +kernel : decode cX2_put 48 = .ok (.lastore, 1)) ?_
        cases h
        exact re_vret (by decide +kernel : decode cX2_put 49 = .ok (.return_, 1))
theorem metX2_put (n : Nat) (S : rvS) (a0 : Nat) (x1 : Int32) (x2 : Int32) (S' : rvS) (h : fnX2_put n S a0 x1 x2 = some S') : rv_Met yX2_put mX2_put 0 [.ref a0, .int x1, .int x2] S none S' := rv_Met.of ⟨by decide +kernel, rfl, (fun z => by first | rfl | cases z), rfl⟩ (Nat.le_of_ble_eq_true rfl) rfl (eX2_put_in n S a0 x1 x2 S' h)
noncomputable def fnX12_lowest (n : Nat) (S : rvS) (x0 : Int32) : Option Int32 :=
  (fnJ6_bitCount_0f7a4 n S ((x0 &&& (-x0)) - (1 : Int32))).bind fun x2_ =>
  some x2_
set_option maxRecDepth 20000 in
set_option maxHeartbeats 4000000 in
theorem eX12_lowest_in (n : Nat) (S : rvS) (x0 : Int32) (r : Int32) (h : fnX12_lowest n S x0 = some r) : rv_Ev mX12_lowest 1 0 [(0, .int x0)] [] S (some (.int r)) S := by
  unfold fnX12_lowest at h
  refine re_iloadn (pc := 0) 0 (by decide +kernel : decode cX12_lowest 0 = .ok (.iload_n 0, 1)) rfl ?_
  refine re_iloadn (pc := 1) 0 (by decide +kernel : decode cX12_lowest 1 = .ok (.iload_n 0, 1)) rfl ?_
  refine re_ineg (pc := 2) (by decide +kernel : decode cX12_lowest 2 = .ok (.ineg, 1)) ?_
  refine re_iand (pc := 3) (by decide +kernel : decode cX12_lowest 3 = .ok (.iand, 1)) ?_
  refine re_iconst (pc := 4) (1 : Int32) (by decide +kernel : decode cX12_lowest 4 = .ok (.iconst 1, 1)) (by decide) ?_
  refine re_isub (pc := 5) (by decide +kernel : decode cX12_lowest 5 = .ok (.isub, 1)) ?_
  obtain ⟨x2_, g3_, h⟩ := rv_b_e h
  have m1_ := metJ6_bitCount_0f7a4 n S ((x0 &&& (-x0)) - (1 : Int32)) _ g3_
  refine re_cS (pc := 6) [.int ((x0 &&& (-x0)) - (1 : Int32))] m1_ (rv_okl.k ⟨rfl, rfl⟩) (rv_up.rf _ _) (by decide) (Nat.le_of_ble_eq_true rfl) lSX12_174 rfl (by decide +kernel : decode cX12_lowest 6 = .ok (.invokestatic 174, 3)) ?_
  cases h
  exact re_iret (fun ty hty => by cases hty; rfl) (by decide +kernel : decode cX12_lowest 9 = .ok (.ireturn, 1))
theorem metX12_lowest (n : Nat) (S : rvS) (x0 : Int32) (r : Int32) (h : fnX12_lowest n S x0 = some r) : rv_Met yX12_lowest mX12_lowest 1 [.int x0] S (some (.int r)) S := rv_Met.of ⟨by decide +kernel, rfl, (fun z => by first | rfl | cases z), rfl⟩ (Nat.le_of_ble_eq_true rfl) rfl (eX12_lowest_in n S x0 r h)
noncomputable def cX2_spread_186 (n : Nat) (K32 : Nat → Nat → Int32 → Int32 → Int32 → Int32 → rvS → Option (Int32 × rvS)) (K115 : Nat → Nat → Int32 → Int32 → Int32 → Int32 → Int32 → Int32 → Int32 → rvS → Option (Int32 × rvS)) (S : rvS) (a0 : Nat) (a1 : Nat) (x3 : Int32) (x4 : Int32) (x5 : Int32) (x6 : Int32) (x9 : Int32) (x10 : Int32) (x11 : Int32) : Option (Int32 × rvS) :=
  rv_lt (x11 &&& (x11 - (1 : Int32))) fun x1_ =>
  K115 a0 a1 x3 x4 x5 x6 x9 x10 x1_ S
set_option maxRecDepth 20000 in
set_option maxHeartbeats 4000000 in
theorem eX2_spread_186 (n : Nat) (K32 : Nat → Nat → Int32 → Int32 → Int32 → Int32 → rvS → Option (Int32 × rvS)) (K115 : Nat → Nat → Int32 → Int32 → Int32 → Int32 → Int32 → Int32 → Int32 → rvS → Option (Int32 × rvS)) (hK32 : ∀ (a0 : Nat) (a1 : Nat) (x3 : Int32) (x4 : Int32) (x5 : Int32) (x6 : Int32) (S : rvS) (r : Int32) (S' : rvS), K32 a0 a1 x3 x4 x5 x6 S = some (r, S') → rv_Ev mX2_spread 3 32 [(0, .ref a0), (1, .ref a1), (3, .int x3), (4, .int x4), (5, .int x5), (6, .int x6)] [] S (some (.int r)) S') (hK115 : ∀ (a0 : Nat) (a1 : Nat) (x3 : Int32) (x4 : Int32) (x5 : Int32) (x6 : Int32) (x9 : Int32) (x10 : Int32) (x11 : Int32) (S : rvS) (r : Int32) (S' : rvS), K115 a0 a1 x3 x4 x5 x6 x9 x10 x11 S = some (r, S') → rv_Ev mX2_spread 3 115 [(0, .ref a0), (1, .ref a1), (3, .int x3), (4, .int x4), (5, .int x5), (6, .int x6), (9, .int x9), (10, .int x10), (11, .int x11)] [] S (some (.int r)) S') (S : rvS) (a0 : Nat) (a1 : Nat) (x3 : Int32) (x4 : Int32) (x5 : Int32) (x6 : Int32) (x9 : Int32) (x10 : Int32) (x11 : Int32) (r : Int32) (S' : rvS) (h : cX2_spread_186 n K32 K115 S a0 a1 x3 x4 x5 x6 x9 x10 x11 = some (r, S')) : rv_Ev mX2_spread 3 186 [(0, .ref a0), (1, .ref a1), (3, .int x3), (4, .int x4), (5, .int x5), (6, .int x6), (9, .int x9), (10, .int x10), (11, .int x11)] [] S (some (.int r)) S' := by
  unfold cX2_spread_186 at h
  refine re_iload (pc := 186) 8 (by decide +kernel : decode cX2_spread 186 = .ok (.iload 11, 2)) rfl ?_
  refine re_iload (pc := 188) 8 (by decide +kernel : decode cX2_spread 188 = .ok (.iload 11, 2)) rfl ?_
  refine re_iconst (pc := 190) (1 : Int32) (by decide +kernel : decode cX2_spread 190 = .ok (.iconst 1, 1)) (by decide) ?_
  refine re_isub (pc := 191) (by decide +kernel : decode cX2_spread 191 = .ok (.isub, 1)) ?_
  refine re_iand (pc := 192) (by decide +kernel : decode cX2_spread 192 = .ok (.iand, 1)) ?_
  obtain ⟨x1_, g2_, h⟩ := rv_lt_e h
  refine re_nI (pc := 193) g2_ ?_
  refine re_istore (pc := 193) (lv1 := [(11, .int x1_), (0, .ref a0), (1, .ref a1), (3, .int x3), (4, .int x4), (5, .int x5), (6, .int x6), (9, .int x9), (10, .int x10)]) (by decide +kernel : decode cX2_spread 193 = .ok (.istore 11, 2)) (by decide) rfl ?_
  refine re_goto (pc := 195) 115 (by decide +kernel : decode cX2_spread 195 = .ok (.goto (-80), 3)) (by decide) ?_
  refine re_sub [1, 2, 3, 4, 5, 6, 7, 8, 0] (lv1 := [(0, .ref a0), (1, .ref a1), (3, .int x3), (4, .int x4), (5, .int x5), (6, .int x6), (9, .int x9), (10, .int x10), (11, .int x1_)]) rfl ?_
  exact hK115 a0 a1 x3 x4 x5 x6 x9 x10 x1_ S _ _ h
noncomputable def cX2_spread_115 (n : Nat) (K32 : Nat → Nat → Int32 → Int32 → Int32 → Int32 → rvS → Option (Int32 × rvS)) : Nat → rvS → Nat → Nat → Int32 → Int32 → Int32 → Int32 → Int32 → Int32 → Int32 → Option (Int32 × rvS)
  | 0, _, _, _, _, _, _, _, _, _, _ => none
  | k + 1, S, a0, a1, x3, x4, x5, x6, x9, x10, x11 =>
    if x11 = 0 then (
      rv_lt (x6 + (1)) fun x2_ =>
      K32 a0 a1 x3 x4 x5 x2_ S)
    else (
      (fnX12_lowest n S x11).bind fun x5_ =>
      if (266240 : Int32) ≤ x5 then (
        cX2_spread_186 n K32 (fun a0 a1 x3 x4 x5 x6 x9 x10 x11 S => cX2_spread_115 n K32 k S a0 a1 x3 x4 x5 x6 x9 x10 x11) S a0 a1 x3 x4 x5 x6 x9 x10 x11)
      else (
        (rv_gR S 1 a0 0).bind fun a8_ =>
        (fnX2_isIn n S a8_ (x10 + x5_)).bind fun x11_ =>
        if x11_ = 0 then (
          (rv_gR S 1 a0 0).bind fun a14_ =>
          (fnX2_put n S a14_ (x10 + x5_) (1 : Int32)).bind fun S17_ =>
          (rv_gR S17_ 1 a0 2).bind fun a20_ =>
          (rv_uL S17_ a20_ x5 ((((x6.toInt64) <<< ((20 : Int32).toInt64 &&& 63)) ||| (x9.toInt64)) ||| (x5_.toInt64))).bind fun S22_ =>
          rv_lt (x5 + (1)) fun x24_ =>
          cX2_spread_186 n K32 (fun a0 a1 x3 x4 x5 x6 x9 x10 x11 S => cX2_spread_115 n K32 k S a0 a1 x3 x4 x5 x6 x9 x10 x11) S22_ a0 a1 x3 x4 x24_ x6 x9 x10 x11)
        else (
          cX2_spread_186 n K32 (fun a0 a1 x3 x4 x5 x6 x9 x10 x11 S => cX2_spread_115 n K32 k S a0 a1 x3 x4 x5 x6 x9 x10 x11) S a0 a1 x3 x4 x5 x6 x9 x10 x11)))
set_option maxRecDepth 20000 in
set_option maxHeartbeats 4000000 in
theorem eX2_spread_115 (n : Nat) (K32 : Nat → Nat → Int32 → Int32 → Int32 → Int32 → rvS → Option (Int32 × rvS)) (hK32 : ∀ (a0 : Nat) (a1 : Nat) (x3 : Int32) (x4 : Int32) (x5 : Int32) (x6 : Int32) (S : rvS) (r : Int32) (S' : rvS), K32 a0 a1 x3 x4 x5 x6 S = some (r, S') → rv_Ev mX2_spread 3 32 [(0, .ref a0), (1, .ref a1), (3, .int x3), (4, .int x4), (5, .int x5), (6, .int x6)] [] S (some (.int r)) S') : ∀ (k : Nat) (S : rvS) (a0 : Nat) (a1 : Nat) (x3 : Int32) (x4 : Int32) (x5 : Int32) (x6 : Int32) (x9 : Int32) (x10 : Int32) (x11 : Int32) (r : Int32) (S' : rvS), cX2_spread_115 n K32 k S a0 a1 x3 x4 x5 x6 x9 x10 x11 = some (r, S') → rv_Ev mX2_spread 3 115 [(0, .ref a0), (1, .ref a1), (3, .int x3), (4, .int x4), (5, .int x5), (6, .int x6), (9, .int x9), (10, .int x10), (11, .int x11)] [] S (some (.int r)) S' := by
  intro k
  induction k with
  | zero => intro S a0 a1 x3 x4 x5 x6 x9 x10 x11 r S' h; exact absurd h (by simp [cX2_spread_115])
  | succ k ih =>
    intro S a0 a1 x3 x4 x5 x6 x9 x10 x11 r S' h
    unfold cX2_spread_115 at h
    refine re_iload (pc := 115) 8 (by decide +kernel : decode cX2_spread 115 = .ok (.iload 11, 2)) rfl ?_
    rcases rv_if_e h with ⟨g1_, h⟩ | ⟨g1_, h⟩
    · refine re_if_eq_t (pc := 117) 198 (by decide +kernel : decode cX2_spread 117 = .ok (.ifCond .eq 81, 3)) (by decide) g1_ ?_
      obtain ⟨x2_, g3_, h⟩ := rv_lt_e h
      refine re_iinc (pc := 198) 5 x2_ (lv1 := [(6, .int x2_), (0, .ref a0), (1, .ref a1), (3, .int x3), (4, .int x4), (5, .int x5), (9, .int x9), (10, .int x10), (11, .int x11)]) (by decide +kernel : decode cX2_spread 198 = .ok (.iinc 6 1, 3)) rfl g3_ (by decide) rfl ?_
      refine re_goto (pc := 201) 32 (by decide +kernel : decode cX2_spread 201 = .ok (.goto (-169), 3)) (by decide) ?_
      refine re_sub [1, 2, 3, 4, 5, 0] (lv1 := [(0, .ref a0), (1, .ref a1), (3, .int x3), (4, .int x4), (5, .int x5), (6, .int x2_)]) rfl ?_
      exact hK32 a0 a1 x3 x4 x5 x2_ S _ _ h
    · refine re_if_eq_f (pc := 117) 198 (by decide +kernel : decode cX2_spread 117 = .ok (.ifCond .eq 81, 3)) (by decide) g1_ ?_
      refine re_iload (pc := 120) 8 (by decide +kernel : decode cX2_spread 120 = .ok (.iload 11, 2)) rfl ?_
      obtain ⟨x5_, g6_, h⟩ := rv_b_e h
      have m4_ := metX12_lowest n S x11 _ g6_
      refine re_cS (pc := 122) [.int x11] m4_ (rv_okl.k ⟨rfl, rfl⟩) (rv_up.rf _ _) (by decide) (Nat.le_of_ble_eq_true rfl) lSX2_148 rfl (by decide +kernel : decode cX2_spread 122 = .ok (.invokestatic 148, 3)) ?_
      refine re_istore (pc := 125) (lv1 := [(12, .int x5_), (0, .ref a0), (1, .ref a1), (3, .int x3), (4, .int x4), (5, .int x5), (6, .int x6), (9, .int x9), (10, .int x10), (11, .int x11)]) (by decide +kernel : decode cX2_spread 125 = .ok (.istore 12, 2)) (by decide) rfl ?_
      refine re_iload (pc := 127) 5 (by decide +kernel : decode cX2_spread 127 = .ok (.iload 5, 2)) rfl ?_
      refine re_ldc (pc := 129) (v := 266240) (rw2 53 (by decide +kernel) rfl) (by decide +kernel : decode cX2_spread 129 = .ok (.ldc 22, 2)) ?_
      rcases rv_if_e h with ⟨g7_, h⟩ | ⟨g7_, h⟩
      · refine re_icmp_ge_t (pc := 131) 186 (by decide +kernel : decode cX2_spread 131 = .ok (.if_icmp .ge 55, 3)) (by decide) g7_ ?_
        refine re_sub [1, 2, 3, 4, 5, 6, 7, 8, 9] (lv1 := [(0, .ref a0), (1, .ref a1), (3, .int x3), (4, .int x4), (5, .int x5), (6, .int x6), (9, .int x9), (10, .int x10), (11, .int x11)]) rfl ?_
        exact eX2_spread_186 n K32 (fun a0 a1 x3 x4 x5 x6 x9 x10 x11 S => cX2_spread_115 n K32 k S a0 a1 x3 x4 x5 x6 x9 x10 x11) hK32 (fun a0 a1 x3 x4 x5 x6 x9 x10 x11 S _ _ h => ih S a0 a1 x3 x4 x5 x6 x9 x10 x11 _ _ h) S a0 a1 x3 x4 x5 x6 x9 x10 x11 _ _ h
      · refine re_icmp_ge_f (pc := 131) 186 (by decide +kernel : decode cX2_spread 131 = .ok (.if_icmp .ge 55, 3)) (by decide) g7_ ?_
        refine re_aloadn (pc := 134) 1 (by decide +kernel : decode cX2_spread 134 = .ok (.aload_n 0, 1)) rfl ?_
        obtain ⟨a8_, g9_, h⟩ := rv_b_e h
        refine re_gR (pc := 135) g9_ lfX2_15 rfl (by decide +kernel : decode cX2_spread 135 = .ok (.getfield 15, 3)) ?_
        refine re_iload (pc := 138) 8 (by decide +kernel : decode cX2_spread 138 = .ok (.iload 10, 2)) rfl ?_
        refine re_iload (pc := 140) 0 (by decide +kernel : decode cX2_spread 140 = .ok (.iload 12, 2)) rfl ?_
        refine re_iadd (pc := 142) (by decide +kernel : decode cX2_spread 142 = .ok (.iadd, 1)) ?_
        obtain ⟨x11_, g12_, h⟩ := rv_b_e h
        have m10_ := metX2_isIn n S a8_ (x10 + x5_) _ g12_
        refine re_cS (pc := 143) [.ref a8_, .int (x10 + x5_)] m10_ (rv_okl.k ⟨rfl, rfl⟩) (rv_up.rf _ _) (by decide) (Nat.le_of_ble_eq_true rfl) lSX2_151 rfl (by decide +kernel : decode cX2_spread 143 = .ok (.invokestatic 151, 3)) ?_
        rcases rv_if_e h with ⟨g13_, h⟩ | ⟨g13_, h⟩
        · refine re_if_ne_f (pc := 146) 186 (by decide +kernel : decode cX2_spread 146 = .ok (.ifCond .ne 40, 3)) (by decide) g13_ ?_
          refine re_aloadn (pc := 149) 1 (by decide +kernel : decode cX2_spread 149 = .ok (.aload_n 0, 1)) rfl ?_
          obtain ⟨a14_, g15_, h⟩ := rv_b_e h
          refine re_gR (pc := 150) g15_ lfX2_15 rfl (by decide +kernel : decode cX2_spread 150 = .ok (.getfield 15, 3)) ?_
          refine re_iload (pc := 153) 8 (by decide +kernel : decode cX2_spread 153 = .ok (.iload 10, 2)) rfl ?_
          refine re_iload (pc := 155) 0 (by decide +kernel : decode cX2_spread 155 = .ok (.iload 12, 2)) rfl ?_
          refine re_iadd (pc := 157) (by decide +kernel : decode cX2_spread 157 = .ok (.iadd, 1)) ?_
          refine re_iconst (pc := 158) (1 : Int32) (by decide +kernel : decode cX2_spread 158 = .ok (.iconst 1, 1)) (by decide) ?_
          obtain ⟨S17_, g18_, h⟩ := rv_b_e h
          have m16_ := metX2_put n S a14_ (x10 + x5_) (1 : Int32) _ g18_
          have z19_ : rv_same S S17_ := m16_.sh rfl
          refine re_cS (pc := 159) [.ref a14_, .int (x10 + x5_), .int (1 : Int32)] m16_ (rv_okl.k z19_) (rv_up.sh z19_) (by decide) (Nat.le_of_ble_eq_true rfl) lSX2_137 rfl (by decide +kernel : decode cX2_spread 159 = .ok (.invokestatic 137, 3)) ?_
          refine re_aloadn (pc := 162) 1 (by decide +kernel : decode cX2_spread 162 = .ok (.aload_n 0, 1)) rfl ?_
          obtain ⟨a20_, g21_, h⟩ := rv_b_e h
          refine re_gR (pc := 163) g21_ lfX2_23 rfl (by decide +kernel : decode cX2_spread 163 = .ok (.getfield 23, 3)) ?_
          refine re_iload (pc := 166) 5 (by decide +kernel : decode cX2_spread 166 = .ok (.iload 5, 2)) rfl ?_
          refine re_iload (pc := 168) 6 (by decide +kernel : decode cX2_spread 168 = .ok (.iload 6, 2)) rfl ?_
          refine re_i2l (pc := 170) (by decide +kernel : decode cX2_spread 170 = .ok (.i2l, 1)) ?_
          refine re_bipush (pc := 171) (20 : Int32) (by decide +kernel : decode cX2_spread 171 = .ok (.bipush 20, 2)) (by decide) ?_
          refine re_lshl (pc := 173) (by decide +kernel : decode cX2_spread 173 = .ok (.lshl, 1)) ?_
          refine re_iload (pc := 174) 7 (by decide +kernel : decode cX2_spread 174 = .ok (.iload 9, 2)) rfl ?_
          refine re_i2l (pc := 176) (by decide +kernel : decode cX2_spread 176 = .ok (.i2l, 1)) ?_
          refine re_lor (pc := 177) (by decide +kernel : decode cX2_spread 177 = .ok (.lor, 1)) ?_
          refine re_iload (pc := 178) 0 (by decide +kernel : decode cX2_spread 178 = .ok (.iload 12, 2)) rfl ?_
          refine re_i2l (pc := 180) (by decide +kernel : decode cX2_spread 180 = .ok (.i2l, 1)) ?_
          refine re_lor (pc := 181) (by decide +kernel : decode cX2_spread 181 = .ok (.lor, 1)) ?_
          obtain ⟨S22_, g23_, h⟩ := rv_b_e h
          refine re_uL (pc := 182) g23_ (by decide +kernel : decode cX2_spread 182 = .ok (.lastore, 1)) ?_
          obtain ⟨x24_, g25_, h⟩ := rv_lt_e h
          refine re_iinc (pc := 183) 5 x24_ (lv1 := [(5, .int x24_), (12, .int x5_), (0, .ref a0), (1, .ref a1), (3, .int x3), (4, .int x4), (6, .int x6), (9, .int x9), (10, .int x10), (11, .int x11)]) (by decide +kernel : decode cX2_spread 183 = .ok (.iinc 5 1, 3)) rfl g25_ (by decide) rfl ?_
          refine re_sub [2, 3, 4, 5, 0, 6, 7, 8, 9] (lv1 := [(0, .ref a0), (1, .ref a1), (3, .int x3), (4, .int x4), (5, .int x24_), (6, .int x6), (9, .int x9), (10, .int x10), (11, .int x11)]) rfl ?_
          exact eX2_spread_186 n K32 (fun a0 a1 x3 x4 x5 x6 x9 x10 x11 S => cX2_spread_115 n K32 k S a0 a1 x3 x4 x5 x6 x9 x10 x11) hK32 (fun a0 a1 x3 x4 x5 x6 x9 x10 x11 S _ _ h => ih S a0 a1 x3 x4 x5 x6 x9 x10 x11 _ _ h) S22_ a0 a1 x3 x4 x24_ x6 x9 x10 x11 _ _ h
        · refine re_if_ne_t (pc := 146) 186 (by decide +kernel : decode cX2_spread 146 = .ok (.ifCond .ne 40, 3)) (by decide) g13_ ?_
          refine re_sub [1, 2, 3, 4, 5, 6, 7, 8, 9] (lv1 := [(0, .ref a0), (1, .ref a1), (3, .int x3), (4, .int x4), (5, .int x5), (6, .int x6), (9, .int x9), (10, .int x10), (11, .int x11)]) rfl ?_
          exact eX2_spread_186 n K32 (fun a0 a1 x3 x4 x5 x6 x9 x10 x11 S => cX2_spread_115 n K32 k S a0 a1 x3 x4 x5 x6 x9 x10 x11) hK32 (fun a0 a1 x3 x4 x5 x6 x9 x10 x11 S _ _ h => ih S a0 a1 x3 x4 x5 x6 x9 x10 x11 _ _ h) S a0 a1 x3 x4 x5 x6 x9 x10 x11 _ _ h
noncomputable def cX2_spread_103 (n : Nat) (K32 : Nat → Nat → Int32 → Int32 → Int32 → Int32 → rvS → Option (Int32 × rvS)) (S : rvS) (a0 : Nat) (a1 : Nat) (x3 : Int32) (x4 : Int32) (x5 : Int32) (x6 : Int32) (x8 : Int32) (x9 : Int32) : Option (Int32 × rvS) :=
  (rv_ck S 1 a0).bind fun u1_ =>
  (fnX2_codeOf n S a0 x9).bind fun x4_ =>
  cX2_spread_115 n K32 n S a0 a1 x3 x4 x5 x6 x9 x4_ x8
set_option maxRecDepth 20000 in
set_option maxHeartbeats 4000000 in
theorem eX2_spread_103 (n : Nat) (K32 : Nat → Nat → Int32 → Int32 → Int32 → Int32 → rvS → Option (Int32 × rvS)) (hK32 : ∀ (a0 : Nat) (a1 : Nat) (x3 : Int32) (x4 : Int32) (x5 : Int32) (x6 : Int32) (S : rvS) (r : Int32) (S' : rvS), K32 a0 a1 x3 x4 x5 x6 S = some (r, S') → rv_Ev mX2_spread 3 32 [(0, .ref a0), (1, .ref a1), (3, .int x3), (4, .int x4), (5, .int x5), (6, .int x6)] [] S (some (.int r)) S') (S : rvS) (a0 : Nat) (a1 : Nat) (x3 : Int32) (x4 : Int32) (x5 : Int32) (x6 : Int32) (x8 : Int32) (x9 : Int32) (r : Int32) (S' : rvS) (h : cX2_spread_103 n K32 S a0 a1 x3 x4 x5 x6 x8 x9 = some (r, S')) : rv_Ev mX2_spread 3 103 [(0, .ref a0), (1, .ref a1), (3, .int x3), (4, .int x4), (5, .int x5), (6, .int x6), (8, .int x8), (9, .int x9)] [] S (some (.int r)) S' := by
  unfold cX2_spread_103 at h
  refine re_aloadn (pc := 103) 0 (by decide +kernel : decode cX2_spread 103 = .ok (.aload_n 0, 1)) rfl ?_
  refine re_iload (pc := 104) 7 (by decide +kernel : decode cX2_spread 104 = .ok (.iload 9, 2)) rfl ?_
  obtain ⟨u1_, g2_, h⟩ := rv_b_e h
  obtain ⟨x4_, g5_, h⟩ := rv_b_e h
  have m3_ := metX2_codeOf n S a0 x9 _ g5_
  refine re_cV (pc := 106) [.int x9] m3_ (rv_okl.k ⟨rfl, rfl⟩) (rv_up.rf _ _) (by decide) (rv_ck_e g2_) ⟨by decide, rfl⟩ (Nat.le_of_ble_eq_true rfl) lVX2_134 rfl (by decide +kernel : decode cX2_spread 106 = .ok (.invokevirtual 134, 3)) ?_
  refine re_istore (pc := 109) (lv1 := [(10, .int x4_), (0, .ref a0), (1, .ref a1), (3, .int x3), (4, .int x4), (5, .int x5), (6, .int x6), (8, .int x8), (9, .int x9)]) (by decide +kernel : decode cX2_spread 109 = .ok (.istore 10, 2)) (by decide) rfl ?_
  refine re_iload (pc := 111) 7 (by decide +kernel : decode cX2_spread 111 = .ok (.iload 8, 2)) rfl ?_
  refine re_istore (pc := 113) (lv1 := [(11, .int x8), (10, .int x4_), (0, .ref a0), (1, .ref a1), (3, .int x3), (4, .int x4), (5, .int x5), (6, .int x6), (8, .int x8), (9, .int x9)]) (by decide +kernel : decode cX2_spread 113 = .ok (.istore 11, 2)) (by decide) rfl ?_
  refine re_sub [2, 3, 4, 5, 6, 7, 9, 1, 0] (lv1 := [(0, .ref a0), (1, .ref a1), (3, .int x3), (4, .int x4), (5, .int x5), (6, .int x6), (9, .int x9), (10, .int x4_), (11, .int x8)]) rfl ?_
  exact eX2_spread_115 n K32 hK32 n S a0 a1 x3 x4 x5 x6 x9 x4_ x8 _ _ h
noncomputable def cX2_spread_32 (n : Nat) : Nat → rvS → Nat → Nat → Int32 → Int32 → Int32 → Int32 → Option (Int32 × rvS)
  | 0, _, _, _, _, _, _, _ => none
  | k + 1, S, a0, a1, x3, x4, x5, x6 =>
    if x5 ≤ x6 then (
      some ((-1 : Int32), S))
    else (
      if (266240 : Int32) ≤ x6 then (
        some ((-1 : Int32), S))
      else (
        (rv_gR S 1 a0 2).bind fun a3_ =>
        (rv_aL S a3_ x6).bind fun x5_ =>
        rv_lt ((x5_.toInt32) &&& (1048575 : Int32)) fun x7_ =>
        (fnX2_goers n S a1 x7_).bind fun x10_ =>
        (fnX2_after n S a1 x7_ (0 : Int32)).bind fun x13_ =>
        if (((x10_.toUInt32 >>> (x3.toUInt32 &&& Int32.toUInt32 31)).toInt32) &&& (1 : Int32)) = 0 then (
          cX2_spread_103 n (fun a0 a1 x3 x4 x5 x6 S => cX2_spread_32 n k S a0 a1 x3 x4 x5 x6) S a0 a1 x3 x4 x5 x6 x10_ x13_)
        else (
          if x4 = (-1 : Int32) then (
            some (x6, S))
          else (
            if (x13_ ||| x3) = x4 then (
              some (x6, S))
            else (
              cX2_spread_103 n (fun a0 a1 x3 x4 x5 x6 S => cX2_spread_32 n k S a0 a1 x3 x4 x5 x6) S a0 a1 x3 x4 x5 x6 x10_ x13_)))))
set_option maxRecDepth 20000 in
set_option maxHeartbeats 4000000 in
theorem eX2_spread_32 (n : Nat) : ∀ (k : Nat) (S : rvS) (a0 : Nat) (a1 : Nat) (x3 : Int32) (x4 : Int32) (x5 : Int32) (x6 : Int32) (r : Int32) (S' : rvS), cX2_spread_32 n k S a0 a1 x3 x4 x5 x6 = some (r, S') → rv_Ev mX2_spread 3 32 [(0, .ref a0), (1, .ref a1), (3, .int x3), (4, .int x4), (5, .int x5), (6, .int x6)] [] S (some (.int r)) S' := by
  intro k
  induction k with
  | zero => intro S a0 a1 x3 x4 x5 x6 r S' h; exact absurd h (by simp [cX2_spread_32])
  | succ k ih =>
    intro S a0 a1 x3 x4 x5 x6 r S' h
    unfold cX2_spread_32 at h
    refine re_iload (pc := 32) 5 (by decide +kernel : decode cX2_spread 32 = .ok (.iload 6, 2)) rfl ?_
    refine re_iload (pc := 34) 4 (by decide +kernel : decode cX2_spread 34 = .ok (.iload 5, 2)) rfl ?_
    rcases rv_if_e h with ⟨g1_, h⟩ | ⟨g1_, h⟩
    · refine re_icmp_ge_t (pc := 36) 204 (by decide +kernel : decode cX2_spread 36 = .ok (.if_icmp .ge 168, 3)) (by decide) g1_ ?_
      refine re_iconst (pc := 204) (-1 : Int32) (by decide +kernel : decode cX2_spread 204 = .ok (.iconst (-1), 1)) (by decide) ?_
      cases h
      exact re_iret (fun ty hty => by cases hty; rfl) (by decide +kernel : decode cX2_spread 205 = .ok (.ireturn, 1))
    · refine re_icmp_ge_f (pc := 36) 204 (by decide +kernel : decode cX2_spread 36 = .ok (.if_icmp .ge 168, 3)) (by decide) g1_ ?_
      refine re_iload (pc := 39) 5 (by decide +kernel : decode cX2_spread 39 = .ok (.iload 6, 2)) rfl ?_
      refine re_ldc (pc := 41) (v := 266240) (rw2 53 (by decide +kernel) rfl) (by decide +kernel : decode cX2_spread 41 = .ok (.ldc 22, 2)) ?_
      rcases rv_if_e h with ⟨g2_, h⟩ | ⟨g2_, h⟩
      · refine re_icmp_ge_t (pc := 43) 204 (by decide +kernel : decode cX2_spread 43 = .ok (.if_icmp .ge 161, 3)) (by decide) g2_ ?_
        refine re_iconst (pc := 204) (-1 : Int32) (by decide +kernel : decode cX2_spread 204 = .ok (.iconst (-1), 1)) (by decide) ?_
        cases h
        exact re_iret (fun ty hty => by cases hty; rfl) (by decide +kernel : decode cX2_spread 205 = .ok (.ireturn, 1))
      · refine re_icmp_ge_f (pc := 43) 204 (by decide +kernel : decode cX2_spread 43 = .ok (.if_icmp .ge 161, 3)) (by decide) g2_ ?_
        refine re_aloadn (pc := 46) 0 (by decide +kernel : decode cX2_spread 46 = .ok (.aload_n 0, 1)) rfl ?_
        obtain ⟨a3_, g4_, h⟩ := rv_b_e h
        refine re_gR (pc := 47) g4_ lfX2_23 rfl (by decide +kernel : decode cX2_spread 47 = .ok (.getfield 23, 3)) ?_
        refine re_iload (pc := 50) 5 (by decide +kernel : decode cX2_spread 50 = .ok (.iload 6, 2)) rfl ?_
        obtain ⟨x5_, g6_, h⟩ := rv_b_e h
        refine re_aL (pc := 52) g6_ (by decide +kernel : decode cX2_spread 52 = .ok (.laload, 1)) ?_
        refine re_l2i (pc := 53) (by decide +kernel : decode cX2_spread 53 = .ok (.l2i, 1)) ?_
        refine re_ldc (pc := 54) (v := 1048575) (rw5 21 (by decide +kernel) rfl) (by decide +kernel : decode cX2_spread 54 = .ok (.ldc 36, 2)) ?_
        refine re_iand (pc := 56) (by decide +kernel : decode cX2_spread 56 = .ok (.iand, 1)) ?_
        obtain ⟨x7_, g8_, h⟩ := rv_lt_e h
        refine re_nI (pc := 57) g8_ ?_
        refine re_istore (pc := 57) (lv1 := [(7, .int x7_), (0, .ref a0), (1, .ref a1), (3, .int x3), (4, .int x4), (5, .int x5), (6, .int x6)]) (by decide +kernel : decode cX2_spread 57 = .ok (.istore 7, 2)) (by decide) rfl ?_
        refine re_aloadn (pc := 59) 2 (by decide +kernel : decode cX2_spread 59 = .ok (.aload_n 1, 1)) rfl ?_
        refine re_iload (pc := 60) 0 (by decide +kernel : decode cX2_spread 60 = .ok (.iload 7, 2)) rfl ?_
        obtain ⟨x10_, g11_, h⟩ := rv_b_e h
        have m9_ := metX2_goers n S a1 x7_ _ g11_
        refine re_cS (pc := 62) [.ref a1, .int x7_] m9_ (rv_okl.k ⟨rfl, rfl⟩) (rv_up.rf _ _) (by decide) (Nat.le_of_ble_eq_true rfl) lSX2_141 rfl (by decide +kernel : decode cX2_spread 62 = .ok (.invokestatic 141, 3)) ?_
        refine re_istore (pc := 65) (lv1 := [(8, .int x10_), (7, .int x7_), (0, .ref a0), (1, .ref a1), (3, .int x3), (4, .int x4), (5, .int x5), (6, .int x6)]) (by decide +kernel : decode cX2_spread 65 = .ok (.istore 8, 2)) (by decide) rfl ?_
        refine re_aloadn (pc := 67) 3 (by decide +kernel : decode cX2_spread 67 = .ok (.aload_n 1, 1)) rfl ?_
        refine re_iload (pc := 68) 1 (by decide +kernel : decode cX2_spread 68 = .ok (.iload 7, 2)) rfl ?_
        refine re_iconst (pc := 70) (0 : Int32) (by decide +kernel : decode cX2_spread 70 = .ok (.iconst 0, 1)) (by decide) ?_
        obtain ⟨x13_, g14_, h⟩ := rv_b_e h
        have m12_ := metX2_after n S a1 x7_ (0 : Int32) _ g14_
        refine re_cS (pc := 71) [.ref a1, .int x7_, .int (0 : Int32)] m12_ (rv_okl.k ⟨rfl, rfl⟩) (rv_up.rf _ _) (by decide) (Nat.le_of_ble_eq_true rfl) lSX2_144 rfl (by decide +kernel : decode cX2_spread 71 = .ok (.invokestatic 144, 3)) ?_
        refine re_istore (pc := 74) (lv1 := [(9, .int x13_), (8, .int x10_), (7, .int x7_), (0, .ref a0), (1, .ref a1), (3, .int x3), (4, .int x4), (5, .int x5), (6, .int x6)]) (by decide +kernel : decode cX2_spread 74 = .ok (.istore 9, 2)) (by decide) rfl ?_
        refine re_iload (pc := 76) 1 (by decide +kernel : decode cX2_spread 76 = .ok (.iload 8, 2)) rfl ?_
        refine re_iloadn (pc := 78) 5 (by decide +kernel : decode cX2_spread 78 = .ok (.iload_n 3, 1)) rfl ?_
        refine re_iushr (pc := 79) (by decide +kernel : decode cX2_spread 79 = .ok (.iushr, 1)) ?_
        refine re_iconst (pc := 80) (1 : Int32) (by decide +kernel : decode cX2_spread 80 = .ok (.iconst 1, 1)) (by decide) ?_
        refine re_iand (pc := 81) (by decide +kernel : decode cX2_spread 81 = .ok (.iand, 1)) ?_
        rcases rv_if_e h with ⟨g15_, h⟩ | ⟨g15_, h⟩
        · refine re_if_eq_t (pc := 82) 103 (by decide +kernel : decode cX2_spread 82 = .ok (.ifCond .eq 21, 3)) (by decide) g15_ ?_
          refine re_sub [3, 4, 5, 6, 7, 8, 1, 0] (lv1 := [(0, .ref a0), (1, .ref a1), (3, .int x3), (4, .int x4), (5, .int x5), (6, .int x6), (8, .int x10_), (9, .int x13_)]) rfl ?_
          exact eX2_spread_103 n (fun a0 a1 x3 x4 x5 x6 S => cX2_spread_32 n k S a0 a1 x3 x4 x5 x6) (fun a0 a1 x3 x4 x5 x6 S _ _ h => ih S a0 a1 x3 x4 x5 x6 _ _ h) S a0 a1 x3 x4 x5 x6 x10_ x13_ _ _ h
        · refine re_if_eq_f (pc := 82) 103 (by decide +kernel : decode cX2_spread 82 = .ok (.ifCond .eq 21, 3)) (by decide) g15_ ?_
          refine re_iload (pc := 85) 6 (by decide +kernel : decode cX2_spread 85 = .ok (.iload 4, 2)) rfl ?_
          refine re_iconst (pc := 87) (-1 : Int32) (by decide +kernel : decode cX2_spread 87 = .ok (.iconst (-1), 1)) (by decide) ?_
          rcases rv_if_e h with ⟨g16_, h⟩ | ⟨g16_, h⟩
          · refine re_icmp_eq_t (pc := 88) 100 (by decide +kernel : decode cX2_spread 88 = .ok (.if_icmp .eq 12, 3)) (by decide) g16_ ?_
            refine re_iload (pc := 100) 8 (by decide +kernel : decode cX2_spread 100 = .ok (.iload 6, 2)) rfl ?_
            cases h
            exact re_iret (fun ty hty => by cases hty; rfl) (by decide +kernel : decode cX2_spread 102 = .ok (.ireturn, 1))
          · refine re_icmp_eq_f (pc := 88) 100 (by decide +kernel : decode cX2_spread 88 = .ok (.if_icmp .eq 12, 3)) (by decide) g16_ ?_
            refine re_iload (pc := 91) 0 (by decide +kernel : decode cX2_spread 91 = .ok (.iload 9, 2)) rfl ?_
            refine re_iloadn (pc := 93) 5 (by decide +kernel : decode cX2_spread 93 = .ok (.iload_n 3, 1)) rfl ?_
            refine re_ior (pc := 94) (by decide +kernel : decode cX2_spread 94 = .ok (.ior, 1)) ?_
            refine re_iload (pc := 95) 6 (by decide +kernel : decode cX2_spread 95 = .ok (.iload 4, 2)) rfl ?_
            rcases rv_if_e h with ⟨g17_, h⟩ | ⟨g17_, h⟩
            · refine re_icmp_ne_f (pc := 97) 103 (by decide +kernel : decode cX2_spread 97 = .ok (.if_icmp .ne 6, 3)) (by decide) g17_ ?_
              refine re_iload (pc := 100) 8 (by decide +kernel : decode cX2_spread 100 = .ok (.iload 6, 2)) rfl ?_
              cases h
              exact re_iret (fun ty hty => by cases hty; rfl) (by decide +kernel : decode cX2_spread 102 = .ok (.ireturn, 1))
            · refine re_icmp_ne_t (pc := 97) 103 (by decide +kernel : decode cX2_spread 97 = .ok (.if_icmp .ne 6, 3)) (by decide) g17_ ?_
              refine re_sub [3, 4, 5, 6, 7, 8, 1, 0] (lv1 := [(0, .ref a0), (1, .ref a1), (3, .int x3), (4, .int x4), (5, .int x5), (6, .int x6), (8, .int x10_), (9, .int x13_)]) rfl ?_
              exact eX2_spread_103 n (fun a0 a1 x3 x4 x5 x6 S => cX2_spread_32 n k S a0 a1 x3 x4 x5 x6) (fun a0 a1 x3 x4 x5 x6 S _ _ h => ih S a0 a1 x3 x4 x5 x6 _ _ h) S a0 a1 x3 x4 x5 x6 x10_ x13_ _ _ h
noncomputable def fnX2_spread (n : Nat) (S : rvS) (a0 : Nat) (a1 : Nat) (x2 : Int32) (x3 : Int32) (x4 : Int32) : Option (Int32 × rvS) :=
  (rv_ck S 1 a0).bind fun u1_ =>
  (fnX2_begin n S a0 a1).bind fun S4_ =>
  (rv_gR S4_ 1 a0 2).bind fun a7_ =>
  (rv_uL S4_ a7_ (0 : Int32) (x2.toInt64)).bind fun S9_ =>
  (rv_gR S9_ 1 a0 0).bind fun a11_ =>
  (rv_ck S9_ 1 a0).bind fun u13_ =>
  (fnX2_codeOf n S9_ a0 x2).bind fun x16_ =>
  (fnX2_put n S9_ a11_ x16_ (1 : Int32)).bind fun S19_ =>
  cX2_spread_32 n n S19_ a0 a1 x3 x4 (1 : Int32) (0 : Int32)
set_option maxRecDepth 20000 in
set_option maxHeartbeats 4000000 in
theorem eX2_spread_in (n : Nat) (S : rvS) (a0 : Nat) (a1 : Nat) (x2 : Int32) (x3 : Int32) (x4 : Int32) (r : Int32) (S' : rvS) (h : fnX2_spread n S a0 a1 x2 x3 x4 = some (r, S')) : rv_Ev mX2_spread 3 0 [(0, .ref a0), (1, .ref a1), (2, .int x2), (3, .int x3), (4, .int x4)] [] S (some (.int r)) S' := by
  unfold fnX2_spread at h
  refine re_aloadn (pc := 0) 0 (by decide +kernel : decode cX2_spread 0 = .ok (.aload_n 0, 1)) rfl ?_
  refine re_aloadn (pc := 1) 1 (by decide +kernel : decode cX2_spread 1 = .ok (.aload_n 1, 1)) rfl ?_
  obtain ⟨u1_, g2_, h⟩ := rv_b_e h
  obtain ⟨S4_, g5_, h⟩ := rv_b_e h
  have m3_ := metX2_begin n S a0 a1 _ g5_
  have z6_ : rv_same S S4_ := m3_.sh rfl
  refine re_cV (pc := 2) [.ref a1] m3_ (rv_okl.k z6_) (rv_up.sh z6_) (by decide) (rv_ck_e g2_) ⟨by decide, rfl⟩ (Nat.le_of_ble_eq_true rfl) lVX2_130 rfl (by decide +kernel : decode cX2_spread 2 = .ok (.invokevirtual 130, 3)) ?_
  refine re_aloadn (pc := 5) 0 (by decide +kernel : decode cX2_spread 5 = .ok (.aload_n 0, 1)) rfl ?_
  obtain ⟨a7_, g8_, h⟩ := rv_b_e h
  refine re_gR (pc := 6) g8_ lfX2_23 rfl (by decide +kernel : decode cX2_spread 6 = .ok (.getfield 23, 3)) ?_
  refine re_iconst (pc := 9) (0 : Int32) (by decide +kernel : decode cX2_spread 9 = .ok (.iconst 0, 1)) (by decide) ?_
  refine re_iloadn (pc := 10) 2 (by decide +kernel : decode cX2_spread 10 = .ok (.iload_n 2, 1)) rfl ?_
  refine re_i2l (pc := 11) (by decide +kernel : decode cX2_spread 11 = .ok (.i2l, 1)) ?_
  obtain ⟨S9_, g10_, h⟩ := rv_b_e h
  refine re_uL (pc := 12) g10_ (by decide +kernel : decode cX2_spread 12 = .ok (.lastore, 1)) ?_
  refine re_aloadn (pc := 13) 0 (by decide +kernel : decode cX2_spread 13 = .ok (.aload_n 0, 1)) rfl ?_
  obtain ⟨a11_, g12_, h⟩ := rv_b_e h
  refine re_gR (pc := 14) g12_ lfX2_15 rfl (by decide +kernel : decode cX2_spread 14 = .ok (.getfield 15, 3)) ?_
  refine re_aloadn (pc := 17) 0 (by decide +kernel : decode cX2_spread 17 = .ok (.aload_n 0, 1)) rfl ?_
  refine re_iloadn (pc := 18) 2 (by decide +kernel : decode cX2_spread 18 = .ok (.iload_n 2, 1)) rfl ?_
  obtain ⟨u13_, g14_, h⟩ := rv_b_e h
  obtain ⟨x16_, g17_, h⟩ := rv_b_e h
  have m15_ := metX2_codeOf n S9_ a0 x2 _ g17_
  refine re_cV (pc := 19) [.int x2] m15_ (rv_okl.k ⟨rfl, rfl⟩) (rv_up.rf _ _) (by decide) (rv_ck_e g14_) ⟨by decide, rfl⟩ (Nat.le_of_ble_eq_true rfl) lVX2_134 rfl (by decide +kernel : decode cX2_spread 19 = .ok (.invokevirtual 134, 3)) ?_
  refine re_iconst (pc := 22) (1 : Int32) (by decide +kernel : decode cX2_spread 22 = .ok (.iconst 1, 1)) (by decide) ?_
  obtain ⟨S19_, g20_, h⟩ := rv_b_e h
  have m18_ := metX2_put n S9_ a11_ x16_ (1 : Int32) _ g20_
  have z21_ : rv_same S9_ S19_ := m18_.sh rfl
  refine re_cS (pc := 23) [.ref a11_, .int x16_, .int (1 : Int32)] m18_ (rv_okl.k z21_) (rv_up.sh z21_) (by decide) (Nat.le_of_ble_eq_true rfl) lSX2_137 rfl (by decide +kernel : decode cX2_spread 23 = .ok (.invokestatic 137, 3)) ?_
  refine re_iconst (pc := 26) (1 : Int32) (by decide +kernel : decode cX2_spread 26 = .ok (.iconst 1, 1)) (by decide) ?_
  refine re_istore (pc := 27) (lv1 := [(5, .int (1 : Int32)), (0, .ref a0), (1, .ref a1), (2, .int x2), (3, .int x3), (4, .int x4)]) (by decide +kernel : decode cX2_spread 27 = .ok (.istore 5, 2)) (by decide) rfl ?_
  refine re_iconst (pc := 29) (0 : Int32) (by decide +kernel : decode cX2_spread 29 = .ok (.iconst 0, 1)) (by decide) ?_
  refine re_istore (pc := 30) (lv1 := [(6, .int (0 : Int32)), (5, .int (1 : Int32)), (0, .ref a0), (1, .ref a1), (2, .int x2), (3, .int x3), (4, .int x4)]) (by decide +kernel : decode cX2_spread 30 = .ok (.istore 6, 2)) (by decide) rfl ?_
  refine re_sub [2, 3, 5, 6, 1, 0] (lv1 := [(0, .ref a0), (1, .ref a1), (3, .int x3), (4, .int x4), (5, .int (1 : Int32)), (6, .int (0 : Int32))]) rfl ?_
  exact eX2_spread_32 n n S19_ a0 a1 x3 x4 (1 : Int32) (0 : Int32) _ _ h
theorem metX2_spread (n : Nat) (S : rvS) (a0 : Nat) (a1 : Nat) (x2 : Int32) (x3 : Int32) (x4 : Int32) (r : Int32) (S' : rvS) (h : fnX2_spread n S a0 a1 x2 x3 x4 = some (r, S')) : rv_Met yX2_spread mX2_spread 3 [.ref a0, .ref a1, .int x2, .int x3, .int x4] S (some (.int r)) S' := rv_Met.of ⟨by decide +kernel, rfl, (fun z => by first | rfl | cases z), rfl⟩ (Nat.le_of_ble_eq_true rfl) rfl (eX2_spread_in n S a0 a1 x2 x3 x4 r S' h)
noncomputable def fnX2_before (n : Nat) (S : rvS) (a0 : Nat) (x1 : Int32) : Option Int32 :=
  if x1 ≤ 0 then (
    some (0 : Int32))
  else (
    if (266240 : Int32) ≤ x1 then (
      some (0 : Int32))
    else (
      (rv_gR S 1 a0 2).bind fun a3_ =>
      (rv_aL S a3_ x1).bind fun x5_ =>
      some (((x5_.toUInt64 >>> ((20 : Int32).toInt64.toUInt64 &&& Int64.toUInt64 63)).toInt64).toInt32)))
set_option maxRecDepth 20000 in
set_option maxHeartbeats 4000000 in
theorem eX2_before_in (n : Nat) (S : rvS) (a0 : Nat) (x1 : Int32) (r : Int32) (h : fnX2_before n S a0 x1 = some r) : rv_Ev mX2_before 0 0 [(0, .ref a0), (1, .int x1)] [] S (some (.int r)) S := by
  unfold fnX2_before at h
  refine re_iloadn (pc := 0) 1 (by decide +kernel : decode cX2_before 0 = .ok (.iload_n 1, 1)) rfl ?_
  rcases rv_if_e h with ⟨g1_, h⟩ | ⟨g1_, h⟩
  · refine re_if_le_t (pc := 1) 23 (by decide +kernel : decode cX2_before 1 = .ok (.ifCond .le 22, 3)) (by decide) g1_ ?_
    refine re_iconst (pc := 23) (0 : Int32) (by decide +kernel : decode cX2_before 23 = .ok (.iconst 0, 1)) (by decide) ?_
    cases h
    exact re_iret (fun ty hty => by cases hty; rfl) (by decide +kernel : decode cX2_before 24 = .ok (.ireturn, 1))
  · refine re_if_le_f (pc := 1) 23 (by decide +kernel : decode cX2_before 1 = .ok (.ifCond .le 22, 3)) (by decide) g1_ ?_
    refine re_iloadn (pc := 4) 1 (by decide +kernel : decode cX2_before 4 = .ok (.iload_n 1, 1)) rfl ?_
    refine re_ldc (pc := 5) (v := 266240) (rw2 53 (by decide +kernel) rfl) (by decide +kernel : decode cX2_before 5 = .ok (.ldc 22, 2)) ?_
    rcases rv_if_e h with ⟨g2_, h⟩ | ⟨g2_, h⟩
    · refine re_icmp_ge_t (pc := 7) 23 (by decide +kernel : decode cX2_before 7 = .ok (.if_icmp .ge 16, 3)) (by decide) g2_ ?_
      refine re_iconst (pc := 23) (0 : Int32) (by decide +kernel : decode cX2_before 23 = .ok (.iconst 0, 1)) (by decide) ?_
      cases h
      exact re_iret (fun ty hty => by cases hty; rfl) (by decide +kernel : decode cX2_before 24 = .ok (.ireturn, 1))
    · refine re_icmp_ge_f (pc := 7) 23 (by decide +kernel : decode cX2_before 7 = .ok (.if_icmp .ge 16, 3)) (by decide) g2_ ?_
      refine re_aloadn (pc := 10) 0 (by decide +kernel : decode cX2_before 10 = .ok (.aload_n 0, 1)) rfl ?_
      obtain ⟨a3_, g4_, h⟩ := rv_b_e h
      refine re_gR (pc := 11) g4_ lfX2_23 rfl (by decide +kernel : decode cX2_before 11 = .ok (.getfield 23, 3)) ?_
      refine re_iloadn (pc := 14) 1 (by decide +kernel : decode cX2_before 14 = .ok (.iload_n 1, 1)) rfl ?_
      obtain ⟨x5_, g6_, h⟩ := rv_b_e h
      refine re_aL (pc := 15) g6_ (by decide +kernel : decode cX2_before 15 = .ok (.laload, 1)) ?_
      refine re_bipush (pc := 16) (20 : Int32) (by decide +kernel : decode cX2_before 16 = .ok (.bipush 20, 2)) (by decide) ?_
      refine re_lushr (pc := 18) (by decide +kernel : decode cX2_before 18 = .ok (.lushr, 1)) ?_
      refine re_l2i (pc := 19) (by decide +kernel : decode cX2_before 19 = .ok (.l2i, 1)) ?_
      refine re_goto (pc := 20) 24 (by decide +kernel : decode cX2_before 20 = .ok (.goto 4, 3)) (by decide) ?_
      cases h
      exact re_iret (fun ty hty => by cases hty; rfl) (by decide +kernel : decode cX2_before 24 = .ok (.ireturn, 1))
theorem metX2_before (n : Nat) (S : rvS) (a0 : Nat) (x1 : Int32) (r : Int32) (h : fnX2_before n S a0 x1 = some r) : rv_Met yX2_before mX2_before 0 [.ref a0, .int x1] S (some (.int r)) S := rv_Met.of ⟨by decide +kernel, rfl, (fun z => by first | rfl | cases z), rfl⟩ (Nat.le_of_ble_eq_true rfl) rfl (eX2_before_in n S a0 x1 r h)
noncomputable def cX2_steps_4 (n : Nat) (S : rvS) : Nat → Nat → Int32 → Int32 → Option Int32
  | 0, _, _, _ => none
  | k + 1, a0, x2, x3 =>
    if x3 ≤ 0 then (
      some x2)
    else (
      if (266240 : Int32) ≤ x2 then (
        some x2)
      else (
        rv_lt (x2 + (1)) fun x3_ =>
        (rv_ck S 1 a0).bind fun u5_ =>
        (fnX2_before n S a0 x3).bind fun x8_ =>
        cX2_steps_4 n S k a0 x3_ x8_))
set_option maxRecDepth 20000 in
set_option maxHeartbeats 4000000 in
theorem eX2_steps_4 (n : Nat) (S : rvS) : ∀ (k : Nat) (a0 : Nat) (x2 : Int32) (x3 : Int32) (r : Int32), cX2_steps_4 n S k a0 x2 x3 = some r → rv_Ev mX2_steps 1 4 [(0, .ref a0), (2, .int x2), (3, .int x3)] [] S (some (.int r)) S := by
  intro k
  induction k with
  | zero => intro a0 x2 x3 r h; exact absurd h (by simp [cX2_steps_4])
  | succ k ih =>
    intro a0 x2 x3 r h
    unfold cX2_steps_4 at h
    refine re_iloadn (pc := 4) 2 (by decide +kernel : decode cX2_steps 4 = .ok (.iload_n 3, 1)) rfl ?_
    rcases rv_if_e h with ⟨g1_, h⟩ | ⟨g1_, h⟩
    · refine re_if_le_t (pc := 5) 26 (by decide +kernel : decode cX2_steps 5 = .ok (.ifCond .le 21, 3)) (by decide) g1_ ?_
      refine re_iloadn (pc := 26) 1 (by decide +kernel : decode cX2_steps 26 = .ok (.iload_n 2, 1)) rfl ?_
      cases h
      exact re_iret (fun ty hty => by cases hty; rfl) (by decide +kernel : decode cX2_steps 27 = .ok (.ireturn, 1))
    · refine re_if_le_f (pc := 5) 26 (by decide +kernel : decode cX2_steps 5 = .ok (.ifCond .le 21, 3)) (by decide) g1_ ?_
      refine re_iloadn (pc := 8) 1 (by decide +kernel : decode cX2_steps 8 = .ok (.iload_n 2, 1)) rfl ?_
      refine re_ldc (pc := 9) (v := 266240) (rw2 53 (by decide +kernel) rfl) (by decide +kernel : decode cX2_steps 9 = .ok (.ldc 22, 2)) ?_
      rcases rv_if_e h with ⟨g2_, h⟩ | ⟨g2_, h⟩
      · refine re_icmp_ge_t (pc := 11) 26 (by decide +kernel : decode cX2_steps 11 = .ok (.if_icmp .ge 15, 3)) (by decide) g2_ ?_
        refine re_iloadn (pc := 26) 1 (by decide +kernel : decode cX2_steps 26 = .ok (.iload_n 2, 1)) rfl ?_
        cases h
        exact re_iret (fun ty hty => by cases hty; rfl) (by decide +kernel : decode cX2_steps 27 = .ok (.ireturn, 1))
      · refine re_icmp_ge_f (pc := 11) 26 (by decide +kernel : decode cX2_steps 11 = .ok (.if_icmp .ge 15, 3)) (by decide) g2_ ?_
        obtain ⟨x3_, g4_, h⟩ := rv_lt_e h
        refine re_iinc (pc := 14) 1 x3_ (lv1 := [(2, .int x3_), (0, .ref a0), (3, .int x3)]) (by decide +kernel : decode cX2_steps 14 = .ok (.iinc 2 1, 3)) rfl g4_ (by decide) rfl ?_
        refine re_aloadn (pc := 17) 1 (by decide +kernel : decode cX2_steps 17 = .ok (.aload_n 0, 1)) rfl ?_
        refine re_iloadn (pc := 18) 2 (by decide +kernel : decode cX2_steps 18 = .ok (.iload_n 3, 1)) rfl ?_
        obtain ⟨u5_, g6_, h⟩ := rv_b_e h
        obtain ⟨x8_, g9_, h⟩ := rv_b_e h
        have m7_ := metX2_before n S a0 x3 _ g9_
        refine re_cV (pc := 19) [.int x3] m7_ (rv_okl.k ⟨rfl, rfl⟩) (rv_up.rf _ _) (by decide) (rv_ck_e g6_) ⟨by decide, rfl⟩ (Nat.le_of_ble_eq_true rfl) lVX2_155 rfl (by decide +kernel : decode cX2_steps 19 = .ok (.invokevirtual 155, 3)) ?_
        refine re_istoren (pc := 22) (lv1 := [(3, .int x8_), (2, .int x3_), (0, .ref a0)]) (by decide +kernel : decode cX2_steps 22 = .ok (.istore_n 3, 1)) rfl (by decide) rfl ?_
        refine re_goto (pc := 23) 4 (by decide +kernel : decode cX2_steps 23 = .ok (.goto (-19), 3)) (by decide) ?_
        refine re_sub [2, 1, 0] (lv1 := [(0, .ref a0), (2, .int x3_), (3, .int x8_)]) rfl ?_
        exact ih a0 x3_ x8_ _ h
noncomputable def fnX2_steps (n : Nat) (S : rvS) (a0 : Nat) (x1 : Int32) : Option Int32 :=
  cX2_steps_4 n S n a0 (0 : Int32) x1
set_option maxRecDepth 20000 in
set_option maxHeartbeats 4000000 in
theorem eX2_steps_in (n : Nat) (S : rvS) (a0 : Nat) (x1 : Int32) (r : Int32) (h : fnX2_steps n S a0 x1 = some r) : rv_Ev mX2_steps 1 0 [(0, .ref a0), (1, .int x1)] [] S (some (.int r)) S := by
  unfold fnX2_steps at h
  refine re_iconst (pc := 0) (0 : Int32) (by decide +kernel : decode cX2_steps 0 = .ok (.iconst 0, 1)) (by decide) ?_
  refine re_istoren (pc := 1) (lv1 := [(2, .int (0 : Int32)), (0, .ref a0), (1, .int x1)]) (by decide +kernel : decode cX2_steps 1 = .ok (.istore_n 2, 1)) rfl (by decide) rfl ?_
  refine re_iloadn (pc := 2) 2 (by decide +kernel : decode cX2_steps 2 = .ok (.iload_n 1, 1)) rfl ?_
  refine re_istoren (pc := 3) (lv1 := [(3, .int x1), (2, .int (0 : Int32)), (0, .ref a0), (1, .int x1)]) (by decide +kernel : decode cX2_steps 3 = .ok (.istore_n 3, 1)) rfl (by decide) rfl ?_
  refine re_sub [2, 1, 0] (lv1 := [(0, .ref a0), (2, .int (0 : Int32)), (3, .int x1)]) rfl ?_
  exact eX2_steps_4 n S n a0 (0 : Int32) x1 _ h
theorem metX2_steps (n : Nat) (S : rvS) (a0 : Nat) (x1 : Int32) (r : Int32) (h : fnX2_steps n S a0 x1 = some r) : rv_Met yX2_steps mX2_steps 1 [.ref a0, .int x1] S (some (.int r)) S := rv_Met.of ⟨by decide +kernel, rfl, (fun z => by first | rfl | cases z), rfl⟩ (Nat.le_of_ble_eq_true rfl) rfl (eX2_steps_in n S a0 x1 r h)
noncomputable def cX2_writeRow_61 (n : Nat) (K13 : Nat → Int32 → Int32 → Int32 → rvS → Option rvS) (S : rvS) (a0 : Nat) (x4 : Int32) (x5 : Int32) (t0 : Int32) : Option rvS :=
  (rv_ck S 1 a0).bind fun u1_ =>
  (fnX2_before n S a0 x4).bind fun x4_ =>
  rv_lt (x5 + (-1)) fun x6_ =>
  K13 a0 t0 x4_ x6_ S
set_option maxRecDepth 20000 in
set_option maxHeartbeats 4000000 in
theorem eX2_writeRow_61 (n : Nat) (K13 : Nat → Int32 → Int32 → Int32 → rvS → Option rvS) (hK13 : ∀ (a0 : Nat) (x3 : Int32) (x4 : Int32) (x5 : Int32) (S : rvS) (S' : rvS), K13 a0 x3 x4 x5 S = some S' → rv_Ev mX2_writeRow 1 13 [(0, .ref a0), (3, .int x3), (4, .int x4), (5, .int x5)] [] S none S') (S : rvS) (a0 : Nat) (x4 : Int32) (x5 : Int32) (t0 : Int32) (S' : rvS) (h : cX2_writeRow_61 n K13 S a0 x4 x5 t0 = some S') : rv_Ev mX2_writeRow 1 61 [(0, .ref a0), (4, .int x4), (5, .int x5)] [.int t0] S none S' := by
  unfold cX2_writeRow_61 at h
  refine re_istoren (pc := 61) (lv1 := [(3, .int t0), (0, .ref a0), (4, .int x4), (5, .int x5)]) (by decide +kernel : decode cX2_writeRow 61 = .ok (.istore_n 3, 1)) rfl (by decide) rfl ?_
  refine re_aloadn (pc := 62) 1 (by decide +kernel : decode cX2_writeRow 62 = .ok (.aload_n 0, 1)) rfl ?_
  refine re_iload (pc := 63) 2 (by decide +kernel : decode cX2_writeRow 63 = .ok (.iload 4, 2)) rfl ?_
  obtain ⟨u1_, g2_, h⟩ := rv_b_e h
  obtain ⟨x4_, g5_, h⟩ := rv_b_e h
  have m3_ := metX2_before n S a0 x4 _ g5_
  refine re_cV (pc := 65) [.int x4] m3_ (rv_okl.k ⟨rfl, rfl⟩) (rv_up.rf _ _) (by decide) (rv_ck_e g2_) ⟨by decide, rfl⟩ (Nat.le_of_ble_eq_true rfl) lVX2_155 rfl (by decide +kernel : decode cX2_writeRow 65 = .ok (.invokevirtual 155, 3)) ?_
  refine re_istore (pc := 68) (lv1 := [(4, .int x4_), (3, .int t0), (0, .ref a0), (5, .int x5)]) (by decide +kernel : decode cX2_writeRow 68 = .ok (.istore 4, 2)) (by decide) rfl ?_
  obtain ⟨x6_, g7_, h⟩ := rv_lt_e h
  refine re_iinc (pc := 70) 3 x6_ (lv1 := [(5, .int x6_), (4, .int x4_), (3, .int t0), (0, .ref a0)]) (by decide +kernel : decode cX2_writeRow 70 = .ok (.iinc 5 (-1), 3)) rfl g7_ (by decide) rfl ?_
  refine re_goto (pc := 73) 13 (by decide +kernel : decode cX2_writeRow 73 = .ok (.goto (-60), 3)) (by decide) ?_
  refine re_sub [3, 2, 1, 0] (lv1 := [(0, .ref a0), (3, .int t0), (4, .int x4_), (5, .int x6_)]) rfl ?_
  exact hK13 a0 t0 x4_ x6_ S _ h
noncomputable def cX2_writeRow_60 (n : Nat) (K13 : Nat → Int32 → Int32 → Int32 → rvS → Option rvS) (S : rvS) (a0 : Nat) (x4 : Int32) (x5 : Int32) : Option rvS :=
  cX2_writeRow_61 n K13 S a0 x4 x5 (-1 : Int32)
set_option maxRecDepth 20000 in
set_option maxHeartbeats 4000000 in
theorem eX2_writeRow_60 (n : Nat) (K13 : Nat → Int32 → Int32 → Int32 → rvS → Option rvS) (hK13 : ∀ (a0 : Nat) (x3 : Int32) (x4 : Int32) (x5 : Int32) (S : rvS) (S' : rvS), K13 a0 x3 x4 x5 S = some S' → rv_Ev mX2_writeRow 1 13 [(0, .ref a0), (3, .int x3), (4, .int x4), (5, .int x5)] [] S none S') (S : rvS) (a0 : Nat) (x4 : Int32) (x5 : Int32) (S' : rvS) (h : cX2_writeRow_60 n K13 S a0 x4 x5 = some S') : rv_Ev mX2_writeRow 1 60 [(0, .ref a0), (4, .int x4), (5, .int x5)] [] S none S' := by
  unfold cX2_writeRow_60 at h
  refine re_iconst (pc := 60) (-1 : Int32) (by decide +kernel : decode cX2_writeRow 60 = .ok (.iconst (-1), 1)) (by decide) ?_
  exact eX2_writeRow_61 n K13 hK13 S a0 x4 x5 (-1 : Int32) _ h
noncomputable def cX2_writeRow_34 (n : Nat) (K13 : Nat → Int32 → Int32 → Int32 → rvS → Option rvS) (S : rvS) (a0 : Nat) (x4 : Int32) (x5 : Int32) : Option rvS :=
  if x4 < 0 then (
    cX2_writeRow_60 n K13 S a0 x4 x5)
  else (
    if (266240 : Int32) ≤ x4 then (
      cX2_writeRow_60 n K13 S a0 x4 x5)
    else (
      (rv_gR S 1 a0 2).bind fun a3_ =>
      (rv_aL S a3_ x4).bind fun x5_ =>
      (fnX2_ownerOf n S (x5_.toInt32)).bind fun x8_ =>
      cX2_writeRow_61 n K13 S a0 x4 x5 x8_))
set_option maxRecDepth 20000 in
set_option maxHeartbeats 4000000 in
theorem eX2_writeRow_34 (n : Nat) (K13 : Nat → Int32 → Int32 → Int32 → rvS → Option rvS) (hK13 : ∀ (a0 : Nat) (x3 : Int32) (x4 : Int32) (x5 : Int32) (S : rvS) (S' : rvS), K13 a0 x3 x4 x5 S = some S' → rv_Ev mX2_writeRow 1 13 [(0, .ref a0), (3, .int x3), (4, .int x4), (5, .int x5)] [] S none S') (S : rvS) (a0 : Nat) (x4 : Int32) (x5 : Int32) (S' : rvS) (h : cX2_writeRow_34 n K13 S a0 x4 x5 = some S') : rv_Ev mX2_writeRow 1 34 [(0, .ref a0), (4, .int x4), (5, .int x5)] [] S none S' := by
  unfold cX2_writeRow_34 at h
  refine re_iload (pc := 34) 1 (by decide +kernel : decode cX2_writeRow 34 = .ok (.iload 4, 2)) rfl ?_
  rcases rv_if_e h with ⟨g1_, h⟩ | ⟨g1_, h⟩
  · refine re_if_lt_t (pc := 36) 60 (by decide +kernel : decode cX2_writeRow 36 = .ok (.ifCond .lt 24, 3)) (by decide) g1_ ?_
    exact eX2_writeRow_60 n K13 hK13 S a0 x4 x5 _ h
  · refine re_if_lt_f (pc := 36) 60 (by decide +kernel : decode cX2_writeRow 36 = .ok (.ifCond .lt 24, 3)) (by decide) g1_ ?_
    refine re_iload (pc := 39) 1 (by decide +kernel : decode cX2_writeRow 39 = .ok (.iload 4, 2)) rfl ?_
    refine re_ldc (pc := 41) (v := 266240) (rw2 53 (by decide +kernel) rfl) (by decide +kernel : decode cX2_writeRow 41 = .ok (.ldc 22, 2)) ?_
    rcases rv_if_e h with ⟨g2_, h⟩ | ⟨g2_, h⟩
    · refine re_icmp_ge_t (pc := 43) 60 (by decide +kernel : decode cX2_writeRow 43 = .ok (.if_icmp .ge 17, 3)) (by decide) g2_ ?_
      exact eX2_writeRow_60 n K13 hK13 S a0 x4 x5 _ h
    · refine re_icmp_ge_f (pc := 43) 60 (by decide +kernel : decode cX2_writeRow 43 = .ok (.if_icmp .ge 17, 3)) (by decide) g2_ ?_
      refine re_aloadn (pc := 46) 0 (by decide +kernel : decode cX2_writeRow 46 = .ok (.aload_n 0, 1)) rfl ?_
      obtain ⟨a3_, g4_, h⟩ := rv_b_e h
      refine re_gR (pc := 47) g4_ lfX2_23 rfl (by decide +kernel : decode cX2_writeRow 47 = .ok (.getfield 23, 3)) ?_
      refine re_iload (pc := 50) 1 (by decide +kernel : decode cX2_writeRow 50 = .ok (.iload 4, 2)) rfl ?_
      obtain ⟨x5_, g6_, h⟩ := rv_b_e h
      refine re_aL (pc := 52) g6_ (by decide +kernel : decode cX2_writeRow 52 = .ok (.laload, 1)) ?_
      refine re_l2i (pc := 53) (by decide +kernel : decode cX2_writeRow 53 = .ok (.l2i, 1)) ?_
      obtain ⟨x8_, g9_, h⟩ := rv_b_e h
      have m7_ := metX2_ownerOf n S (x5_.toInt32) _ g9_
      refine re_cS (pc := 54) [.int (x5_.toInt32)] m7_ (rv_okl.k ⟨rfl, rfl⟩) (rv_up.rf _ _) (by decide) (Nat.le_of_ble_eq_true rfl) lSX2_57 rfl (by decide +kernel : decode cX2_writeRow 54 = .ok (.invokestatic 57, 3)) ?_
      refine re_goto (pc := 57) 61 (by decide +kernel : decode cX2_writeRow 57 = .ok (.goto 4, 3)) (by decide) ?_
      exact eX2_writeRow_61 n K13 hK13 S a0 x4 x5 x8_ _ h
noncomputable def cX2_writeRow_13 (n : Nat) : Nat → rvS → Nat → Int32 → Int32 → Int32 → Option rvS
  | 0, _, _, _, _, _ => none
  | k + 1, S, a0, x3, x4, x5 =>
    if x5 < 0 then (
      some S)
    else (
      if (1024 : Int32) ≤ x5 then (
        cX2_writeRow_34 n (fun a0 x3 x4 x5 S => cX2_writeRow_13 n k S a0 x3 x4 x5) S a0 x4 x5)
      else (
        (rv_gR S 1 a0 4).bind fun a3_ =>
        (rv_uI S a3_ x5 x3).bind fun S5_ =>
        cX2_writeRow_34 n (fun a0 x3 x4 x5 S => cX2_writeRow_13 n k S a0 x3 x4 x5) S5_ a0 x4 x5))
set_option maxRecDepth 20000 in
set_option maxHeartbeats 4000000 in
theorem eX2_writeRow_13 (n : Nat) : ∀ (k : Nat) (S : rvS) (a0 : Nat) (x3 : Int32) (x4 : Int32) (x5 : Int32) (S' : rvS), cX2_writeRow_13 n k S a0 x3 x4 x5 = some S' → rv_Ev mX2_writeRow 1 13 [(0, .ref a0), (3, .int x3), (4, .int x4), (5, .int x5)] [] S none S' := by
  intro k
  induction k with
  | zero => intro S a0 x3 x4 x5 S' h; exact absurd h (by simp [cX2_writeRow_13])
  | succ k ih =>
    intro S a0 x3 x4 x5 S' h
    unfold cX2_writeRow_13 at h
    refine re_iload (pc := 13) 3 (by decide +kernel : decode cX2_writeRow 13 = .ok (.iload 5, 2)) rfl ?_
    rcases rv_if_e h with ⟨g1_, h⟩ | ⟨g1_, h⟩
    · refine re_if_lt_t (pc := 15) 76 (by decide +kernel : decode cX2_writeRow 15 = .ok (.ifCond .lt 61, 3)) (by decide) g1_ ?_
      cases h
      exact re_vret (by decide +kernel : decode cX2_writeRow 76 = .ok (.return_, 1))
    · refine re_if_lt_f (pc := 15) 76 (by decide +kernel : decode cX2_writeRow 15 = .ok (.ifCond .lt 61, 3)) (by decide) g1_ ?_
      refine re_iload (pc := 18) 3 (by decide +kernel : decode cX2_writeRow 18 = .ok (.iload 5, 2)) rfl ?_
      refine re_sipush (pc := 20) (1024 : Int32) (by decide +kernel : decode cX2_writeRow 20 = .ok (.sipush 1024, 3)) (by decide) ?_
      rcases rv_if_e h with ⟨g2_, h⟩ | ⟨g2_, h⟩
      · refine re_icmp_ge_t (pc := 23) 34 (by decide +kernel : decode cX2_writeRow 23 = .ok (.if_icmp .ge 11, 3)) (by decide) g2_ ?_
        refine re_sub [0, 2, 3] (lv1 := [(0, .ref a0), (4, .int x4), (5, .int x5)]) rfl ?_
        exact eX2_writeRow_34 n (fun a0 x3 x4 x5 S => cX2_writeRow_13 n k S a0 x3 x4 x5) (fun a0 x3 x4 x5 S _ h => ih S a0 x3 x4 x5 _ h) S a0 x4 x5 _ h
      · refine re_icmp_ge_f (pc := 23) 34 (by decide +kernel : decode cX2_writeRow 23 = .ok (.if_icmp .ge 11, 3)) (by decide) g2_ ?_
        refine re_aloadn (pc := 26) 0 (by decide +kernel : decode cX2_writeRow 26 = .ok (.aload_n 0, 1)) rfl ?_
        obtain ⟨a3_, g4_, h⟩ := rv_b_e h
        refine re_gR (pc := 27) g4_ lfX2_26 rfl (by decide +kernel : decode cX2_writeRow 27 = .ok (.getfield 26, 3)) ?_
        refine re_iload (pc := 30) 3 (by decide +kernel : decode cX2_writeRow 30 = .ok (.iload 5, 2)) rfl ?_
        refine re_iloadn (pc := 32) 1 (by decide +kernel : decode cX2_writeRow 32 = .ok (.iload_n 3, 1)) rfl ?_
        obtain ⟨S5_, g6_, h⟩ := rv_b_e h
        refine re_uI (pc := 33) g6_ (by decide +kernel : decode cX2_writeRow 33 = .ok (.iastore, 1)) ?_
        refine re_sub [0, 2, 3] (lv1 := [(0, .ref a0), (4, .int x4), (5, .int x5)]) rfl ?_
        exact eX2_writeRow_34 n (fun a0 x3 x4 x5 S => cX2_writeRow_13 n k S a0 x3 x4 x5) (fun a0 x3 x4 x5 S _ h => ih S a0 x3 x4 x5 _ h) S5_ a0 x4 x5 _ h
noncomputable def fnX2_writeRow (n : Nat) (S : rvS) (a0 : Nat) (x1 : Int32) (x2 : Int32) : Option rvS :=
  (rv_gI S 1 a0 5).bind fun x1_ =>
  rv_lt (x1_ - (1 : Int32)) fun x3_ =>
  cX2_writeRow_13 n n S a0 x2 x1 x3_
set_option maxRecDepth 20000 in
set_option maxHeartbeats 4000000 in
theorem eX2_writeRow_in (n : Nat) (S : rvS) (a0 : Nat) (x1 : Int32) (x2 : Int32) (S' : rvS) (h : fnX2_writeRow n S a0 x1 x2 = some S') : rv_Ev mX2_writeRow 1 0 [(0, .ref a0), (1, .int x1), (2, .int x2)] [] S none S' := by
  unfold fnX2_writeRow at h
  refine re_iloadn (pc := 0) 2 (by decide +kernel : decode cX2_writeRow 0 = .ok (.iload_n 2, 1)) rfl ?_
  refine re_istoren (pc := 1) (lv1 := [(3, .int x2), (0, .ref a0), (1, .int x1), (2, .int x2)]) (by decide +kernel : decode cX2_writeRow 1 = .ok (.istore_n 3, 1)) rfl (by decide) rfl ?_
  refine re_iloadn (pc := 2) 2 (by decide +kernel : decode cX2_writeRow 2 = .ok (.iload_n 1, 1)) rfl ?_
  refine re_istore (pc := 3) (lv1 := [(4, .int x1), (3, .int x2), (0, .ref a0), (1, .int x1), (2, .int x2)]) (by decide +kernel : decode cX2_writeRow 3 = .ok (.istore 4, 2)) (by decide) rfl ?_
  refine re_aloadn (pc := 5) 2 (by decide +kernel : decode cX2_writeRow 5 = .ok (.aload_n 0, 1)) rfl ?_
  obtain ⟨x1_, g2_, h⟩ := rv_b_e h
  refine re_gI (pc := 6) g2_ lfX2_87 rfl (by decide +kernel : decode cX2_writeRow 6 = .ok (.getfield 87, 3)) ?_
  refine re_iconst (pc := 9) (1 : Int32) (by decide +kernel : decode cX2_writeRow 9 = .ok (.iconst 1, 1)) (by decide) ?_
  refine re_isub (pc := 10) (by decide +kernel : decode cX2_writeRow 10 = .ok (.isub, 1)) ?_
  obtain ⟨x3_, g4_, h⟩ := rv_lt_e h
  refine re_nI (pc := 11) g4_ ?_
  refine re_istore (pc := 11) (lv1 := [(5, .int x3_), (4, .int x1), (3, .int x2), (0, .ref a0), (1, .int x1), (2, .int x2)]) (by decide +kernel : decode cX2_writeRow 11 = .ok (.istore 5, 2)) (by decide) rfl ?_
  refine re_sub [3, 2, 1, 0] (lv1 := [(0, .ref a0), (3, .int x2), (4, .int x1), (5, .int x3_)]) rfl ?_
  exact eX2_writeRow_13 n n S a0 x2 x1 x3_ _ h
theorem metX2_writeRow (n : Nat) (S : rvS) (a0 : Nat) (x1 : Int32) (x2 : Int32) (S' : rvS) (h : fnX2_writeRow n S a0 x1 x2 = some S') : rv_Met yX2_writeRow mX2_writeRow 1 [.ref a0, .int x1, .int x2] S none S' := rv_Met.of ⟨by decide +kernel, rfl, (fun z => by first | rfl | cases z), rfl⟩ (Nat.le_of_ble_eq_true rfl) rfl (eX2_writeRow_in n S a0 x1 x2 S' h)
noncomputable def fnX2_goTo (n : Nat) (S : rvS) (a0 : Nat) (a1 : Nat) (x2 : Int32) (x3 : Int32) : Option (Int32 × rvS) :=
  (rv_gR S 8 a1 1).bind fun a1_ =>
  (fnX2_stateNow n S a1_ x2).bind fun x4_ =>
  (fnX2_ownerOf n S x4_).bind fun x7_ =>
  if x7_ = x3 then (
    (rv_pI S 1 a0 5 (0 : Int32)).bind fun S52_ =>
    some ((0 : Int32), S52_))
  else (
    (rv_gR S 8 a1 0).bind fun a10_ =>
    (rv_ck S 0 a10_).bind fun u12_ =>
    (fnX1_isDead n S a10_ x3).bind fun x15_ =>
    if x15_ = 0 then (
      (rv_gR S 8 a1 0).bind fun a18_ =>
      (fnX2_ownerOf n S x4_).bind fun x21_ =>
      (rv_ck S 0 a18_).bind fun u23_ =>
      (fnX1_roadsLead n S a18_ x21_ x3).bind fun x26_ =>
      if x26_ = 0 then (
        some ((-1 : Int32), S))
      else (
        (rv_ck S 1 a0).bind fun u29_ =>
        rv_bp (fnX2_spread n S a0 a1 x4_ x3 (-1 : Int32)) fun x32_ S33_ =>
        if x32_ = (-1 : Int32) then (
          some ((-1 : Int32), S33_))
        else (
          (rv_ck S33_ 1 a0).bind fun u37_ =>
          (fnX2_steps n S33_ a0 x32_).bind fun x40_ =>
          (rv_pI S33_ 1 a0 5 (x40_ + (1 : Int32))).bind fun S42_ =>
          (rv_ck S42_ 1 a0).bind fun u44_ =>
          (fnX2_writeRow n S42_ a0 x32_ x3).bind fun S47_ =>
          (rv_gI S47_ 1 a0 5).bind fun x50_ =>
          some (x50_, S47_))))
    else (
      some ((-1 : Int32), S)))
set_option maxRecDepth 20000 in
set_option maxHeartbeats 4000000 in
theorem eX2_goTo_in (n : Nat) (S : rvS) (a0 : Nat) (a1 : Nat) (x2 : Int32) (x3 : Int32) (r : Int32) (S' : rvS) (h : fnX2_goTo n S a0 a1 x2 x3 = some (r, S')) : rv_Ev mX2_goTo 4 0 [(0, .ref a0), (1, .ref a1), (2, .int x2), (3, .int x3)] [] S (some (.int r)) S' := by
  unfold fnX2_goTo at h
  refine re_aloadn (pc := 0) 1 (by decide +kernel : decode cX2_goTo 0 = .ok (.aload_n 1, 1)) rfl ?_
  obtain ⟨a1_, g2_, h⟩ := rv_b_e h
  refine re_gR (pc := 1) g2_ lfX2_67 rfl (by decide +kernel : decode cX2_goTo 1 = .ok (.getfield 67, 3)) ?_
  refine re_iloadn (pc := 4) 2 (by decide +kernel : decode cX2_goTo 4 = .ok (.iload_n 2, 1)) rfl ?_
  obtain ⟨x4_, g5_, h⟩ := rv_b_e h
  have m3_ := metX2_stateNow n S a1_ x2 _ g5_
  refine re_cS (pc := 5) [.ref a1_, .int x2] m3_ (rv_okl.k ⟨rfl, rfl⟩) (rv_up.rf _ _) (by decide) (Nat.le_of_ble_eq_true rfl) lSX2_83 rfl (by decide +kernel : decode cX2_goTo 5 = .ok (.invokestatic 83, 3)) ?_
  refine re_istore (pc := 8) (lv1 := [(4, .int x4_), (0, .ref a0), (1, .ref a1), (2, .int x2), (3, .int x3)]) (by decide +kernel : decode cX2_goTo 8 = .ok (.istore 4, 2)) (by decide) rfl ?_
  refine re_iload (pc := 10) 0 (by decide +kernel : decode cX2_goTo 10 = .ok (.iload 4, 2)) rfl ?_
  obtain ⟨x7_, g8_, h⟩ := rv_b_e h
  have m6_ := metX2_ownerOf n S x4_ _ g8_
  refine re_cS (pc := 12) [.int x4_] m6_ (rv_okl.k ⟨rfl, rfl⟩) (rv_up.rf _ _) (by decide) (Nat.le_of_ble_eq_true rfl) lSX2_57 rfl (by decide +kernel : decode cX2_goTo 12 = .ok (.invokestatic 57, 3)) ?_
  refine re_iloadn (pc := 15) 4 (by decide +kernel : decode cX2_goTo 15 = .ok (.iload_n 3, 1)) rfl ?_
  rcases rv_if_e h with ⟨g9_, h⟩ | ⟨g9_, h⟩
  · refine re_icmp_ne_f (pc := 16) 26 (by decide +kernel : decode cX2_goTo 16 = .ok (.if_icmp .ne 10, 3)) (by decide) g9_ ?_
    refine re_aloadn (pc := 19) 1 (by decide +kernel : decode cX2_goTo 19 = .ok (.aload_n 0, 1)) rfl ?_
    refine re_iconst (pc := 20) (0 : Int32) (by decide +kernel : decode cX2_goTo 20 = .ok (.iconst 0, 1)) (by decide) ?_
    obtain ⟨S52_, g53_, h⟩ := rv_b_e h
    refine re_pI (pc := 21) g53_ lfX2_87 rfl rfl rfl rfl (by decide +kernel : decode cX2_goTo 21 = .ok (.putfield 87, 3)) ?_
    refine re_iconst (pc := 24) (0 : Int32) (by decide +kernel : decode cX2_goTo 24 = .ok (.iconst 0, 1)) (by decide) ?_
    cases h
    exact re_iret (fun ty hty => by cases hty; rfl) (by decide +kernel : decode cX2_goTo 25 = .ok (.ireturn, 1))
  · refine re_icmp_ne_t (pc := 16) 26 (by decide +kernel : decode cX2_goTo 16 = .ok (.if_icmp .ne 10, 3)) (by decide) g9_ ?_
    refine re_aloadn (pc := 26) 2 (by decide +kernel : decode cX2_goTo 26 = .ok (.aload_n 1, 1)) rfl ?_
    obtain ⟨a10_, g11_, h⟩ := rv_b_e h
    refine re_gR (pc := 27) g11_ lfX2_51 rfl (by decide +kernel : decode cX2_goTo 27 = .ok (.getfield 51, 3)) ?_
    refine re_iloadn (pc := 30) 4 (by decide +kernel : decode cX2_goTo 30 = .ok (.iload_n 3, 1)) rfl ?_
    obtain ⟨u12_, g13_, h⟩ := rv_b_e h
    obtain ⟨x15_, g16_, h⟩ := rv_b_e h
    have m14_ := metX1_isDead n S a10_ x3 _ g16_
    refine re_cV (pc := 31) [.int x3] m14_ (rv_okl.k ⟨rfl, rfl⟩) (rv_up.rf _ _) (by decide) (rv_ck_e g13_) ⟨by decide, rfl⟩ (Nat.le_of_ble_eq_true rfl) lVX2_90 rfl (by decide +kernel : decode cX2_goTo 31 = .ok (.invokevirtual 90, 3)) ?_
    rcases rv_if_e h with ⟨g17_, h⟩ | ⟨g17_, h⟩
    · refine re_if_ne_f (pc := 34) 53 (by decide +kernel : decode cX2_goTo 34 = .ok (.ifCond .ne 19, 3)) (by decide) g17_ ?_
      refine re_aloadn (pc := 37) 2 (by decide +kernel : decode cX2_goTo 37 = .ok (.aload_n 1, 1)) rfl ?_
      obtain ⟨a18_, g19_, h⟩ := rv_b_e h
      refine re_gR (pc := 38) g19_ lfX2_51 rfl (by decide +kernel : decode cX2_goTo 38 = .ok (.getfield 51, 3)) ?_
      refine re_iload (pc := 41) 0 (by decide +kernel : decode cX2_goTo 41 = .ok (.iload 4, 2)) rfl ?_
      obtain ⟨x21_, g22_, h⟩ := rv_b_e h
      have m20_ := metX2_ownerOf n S x4_ _ g22_
      refine re_cS (pc := 43) [.int x4_] m20_ (rv_okl.k ⟨rfl, rfl⟩) (rv_up.rf _ _) (by decide) (Nat.le_of_ble_eq_true rfl) lSX2_57 rfl (by decide +kernel : decode cX2_goTo 43 = .ok (.invokestatic 57, 3)) ?_
      refine re_iloadn (pc := 46) 4 (by decide +kernel : decode cX2_goTo 46 = .ok (.iload_n 3, 1)) rfl ?_
      obtain ⟨u23_, g24_, h⟩ := rv_b_e h
      obtain ⟨x26_, g27_, h⟩ := rv_b_e h
      have m25_ := metX1_roadsLead n S a18_ x21_ x3 _ g27_
      refine re_cV (pc := 47) [.int x21_, .int x3] m25_ (rv_okl.k ⟨rfl, rfl⟩) (rv_up.rf _ _) (by decide) (rv_ck_e g24_) ⟨by decide, rfl⟩ (Nat.le_of_ble_eq_true rfl) lVX2_93 rfl (by decide +kernel : decode cX2_goTo 47 = .ok (.invokevirtual 93, 3)) ?_
      rcases rv_if_e h with ⟨g28_, h⟩ | ⟨g28_, h⟩
      · refine re_if_ne_f (pc := 50) 55 (by decide +kernel : decode cX2_goTo 50 = .ok (.ifCond .ne 5, 3)) (by decide) g28_ ?_
        refine re_iconst (pc := 53) (-1 : Int32) (by decide +kernel : decode cX2_goTo 53 = .ok (.iconst (-1), 1)) (by decide) ?_
        cases h
        exact re_iret (fun ty hty => by cases hty; rfl) (by decide +kernel : decode cX2_goTo 54 = .ok (.ireturn, 1))
      · refine re_if_ne_t (pc := 50) 55 (by decide +kernel : decode cX2_goTo 50 = .ok (.ifCond .ne 5, 3)) (by decide) g28_ ?_
        refine re_aloadn (pc := 55) 1 (by decide +kernel : decode cX2_goTo 55 = .ok (.aload_n 0, 1)) rfl ?_
        refine re_aloadn (pc := 56) 2 (by decide +kernel : decode cX2_goTo 56 = .ok (.aload_n 1, 1)) rfl ?_
        refine re_iload (pc := 57) 0 (by decide +kernel : decode cX2_goTo 57 = .ok (.iload 4, 2)) rfl ?_
        refine re_iloadn (pc := 59) 4 (by decide +kernel : decode cX2_goTo 59 = .ok (.iload_n 3, 1)) rfl ?_
        refine re_iconst (pc := 60) (-1 : Int32) (by decide +kernel : decode cX2_goTo 60 = .ok (.iconst (-1), 1)) (by decide) ?_
        obtain ⟨u29_, g30_, h⟩ := rv_b_e h
        obtain ⟨x32_, S33_, g34_, h⟩ := rv_bp_e h
        have m31_ := metX2_spread n S a0 a1 x4_ x3 (-1 : Int32) _ _ g34_
        have z35_ : rv_same S S33_ := m31_.sh rfl
        refine re_cV (pc := 61) [.ref a1, .int x4_, .int x3, .int (-1 : Int32)] m31_ (rv_okl.k z35_) (rv_up.sh z35_) (by decide) (rv_ck_e g30_) ⟨by decide, rfl⟩ (Nat.le_of_ble_eq_true rfl) lVX2_97 rfl (by decide +kernel : decode cX2_goTo 61 = .ok (.invokevirtual 97, 3)) ?_
        refine re_istore (pc := 64) (lv1 := [(5, .int x32_), (4, .int x4_), (0, .ref a0), (1, .ref a1), (2, .int x2), (3, .int x3)]) (by decide +kernel : decode cX2_goTo 64 = .ok (.istore 5, 2)) (by decide) rfl ?_
        refine re_iload (pc := 66) 0 (by decide +kernel : decode cX2_goTo 66 = .ok (.iload 5, 2)) rfl ?_
        refine re_iconst (pc := 68) (-1 : Int32) (by decide +kernel : decode cX2_goTo 68 = .ok (.iconst (-1), 1)) (by decide) ?_
        rcases rv_if_e h with ⟨g36_, h⟩ | ⟨g36_, h⟩
        · refine re_icmp_ne_f (pc := 69) 74 (by decide +kernel : decode cX2_goTo 69 = .ok (.if_icmp .ne 5, 3)) (by decide) g36_ ?_
          refine re_iconst (pc := 72) (-1 : Int32) (by decide +kernel : decode cX2_goTo 72 = .ok (.iconst (-1), 1)) (by decide) ?_
          cases h
          exact re_iret (fun ty hty => by cases hty; rfl) (by decide +kernel : decode cX2_goTo 73 = .ok (.ireturn, 1))
        · refine re_icmp_ne_t (pc := 69) 74 (by decide +kernel : decode cX2_goTo 69 = .ok (.if_icmp .ne 5, 3)) (by decide) g36_ ?_
          refine re_aloadn (pc := 74) 2 (by decide +kernel : decode cX2_goTo 74 = .ok (.aload_n 0, 1)) rfl ?_
          refine re_aloadn (pc := 75) 2 (by decide +kernel : decode cX2_goTo 75 = .ok (.aload_n 0, 1)) rfl ?_
          refine re_iload (pc := 76) 0 (by decide +kernel : decode cX2_goTo 76 = .ok (.iload 5, 2)) rfl ?_
          obtain ⟨u37_, g38_, h⟩ := rv_b_e h
          obtain ⟨x40_, g41_, h⟩ := rv_b_e h
          have m39_ := metX2_steps n S33_ a0 x32_ _ g41_
          refine re_cV (pc := 78) [.int x32_] m39_ (rv_okl.k ⟨rfl, rfl⟩) (rv_up.rf _ _) (by decide) (rv_ck_e g38_) ⟨by decide, rfl⟩ (Nat.le_of_ble_eq_true rfl) lVX2_101 rfl (by decide +kernel : decode cX2_goTo 78 = .ok (.invokevirtual 101, 3)) ?_
          refine re_iconst (pc := 81) (1 : Int32) (by decide +kernel : decode cX2_goTo 81 = .ok (.iconst 1, 1)) (by decide) ?_
          refine re_iadd (pc := 82) (by decide +kernel : decode cX2_goTo 82 = .ok (.iadd, 1)) ?_
          obtain ⟨S42_, g43_, h⟩ := rv_b_e h
          refine re_pI (pc := 83) g43_ lfX2_87 rfl rfl rfl rfl (by decide +kernel : decode cX2_goTo 83 = .ok (.putfield 87, 3)) ?_
          refine re_aloadn (pc := 86) 2 (by decide +kernel : decode cX2_goTo 86 = .ok (.aload_n 0, 1)) rfl ?_
          refine re_iload (pc := 87) 0 (by decide +kernel : decode cX2_goTo 87 = .ok (.iload 5, 2)) rfl ?_
          refine re_iloadn (pc := 89) 5 (by decide +kernel : decode cX2_goTo 89 = .ok (.iload_n 3, 1)) rfl ?_
          obtain ⟨u44_, g45_, h⟩ := rv_b_e h
          obtain ⟨S47_, g48_, h⟩ := rv_b_e h
          have m46_ := metX2_writeRow n S42_ a0 x32_ x3 _ g48_
          have z49_ : rv_same S42_ S47_ := m46_.sh rfl
          refine re_cV (pc := 90) [.int x32_, .int x3] m46_ (rv_okl.k z49_) (rv_up.sh z49_) (by decide) (rv_ck_e g45_) ⟨by decide, rfl⟩ (Nat.le_of_ble_eq_true rfl) lVX2_104 rfl (by decide +kernel : decode cX2_goTo 90 = .ok (.invokevirtual 104, 3)) ?_
          refine re_aloadn (pc := 93) 2 (by decide +kernel : decode cX2_goTo 93 = .ok (.aload_n 0, 1)) rfl ?_
          obtain ⟨x50_, g51_, h⟩ := rv_b_e h
          refine re_gI (pc := 94) g51_ lfX2_87 rfl (by decide +kernel : decode cX2_goTo 94 = .ok (.getfield 87, 3)) ?_
          cases h
          exact re_iret (fun ty hty => by cases hty; rfl) (by decide +kernel : decode cX2_goTo 97 = .ok (.ireturn, 1))
    · refine re_if_ne_t (pc := 34) 53 (by decide +kernel : decode cX2_goTo 34 = .ok (.ifCond .ne 19, 3)) (by decide) g17_ ?_
      refine re_iconst (pc := 53) (-1 : Int32) (by decide +kernel : decode cX2_goTo 53 = .ok (.iconst (-1), 1)) (by decide) ?_
      cases h
      exact re_iret (fun ty hty => by cases hty; rfl) (by decide +kernel : decode cX2_goTo 54 = .ok (.ireturn, 1))
theorem metX2_goTo (n : Nat) (S : rvS) (a0 : Nat) (a1 : Nat) (x2 : Int32) (x3 : Int32) (r : Int32) (S' : rvS) (h : fnX2_goTo n S a0 a1 x2 x3 = some (r, S')) : rv_Met yX2_goTo mX2_goTo 4 [.ref a0, .ref a1, .int x2, .int x3] S (some (.int r)) S' := rv_Met.of ⟨by decide +kernel, rfl, (fun z => by first | rfl | cases z), rfl⟩ (Nat.le_of_ble_eq_true rfl) rfl (eX2_goTo_in n S a0 a1 x2 x3 r S' h)
noncomputable def fnX6_nameOn (n : Nat) (S : rvS) (x0 : Int32) (x1 : Int32) : Option Int32 :=
  some ((((x0.toUInt32 >>> (((5 : Int32) * x1).toUInt32 &&& Int32.toUInt32 31)).toInt32) &&& (31 : Int32)) - (1 : Int32))
set_option maxRecDepth 20000 in
set_option maxHeartbeats 4000000 in
theorem eX6_nameOn_in (n : Nat) (S : rvS) (x0 : Int32) (x1 : Int32) (r : Int32) (h : fnX6_nameOn n S x0 x1 = some r) : rv_Ev mX6_nameOn 0 0 [(0, .int x0), (1, .int x1)] [] S (some (.int r)) S := by
  unfold fnX6_nameOn at h
  refine re_iloadn (pc := 0) 0 (by decide +kernel : decode cX6_nameOn 0 = .ok (.iload_n 0, 1)) rfl ?_
  refine re_iconst (pc := 1) (5 : Int32) (by decide +kernel : decode cX6_nameOn 1 = .ok (.iconst 5, 1)) (by decide) ?_
  refine re_iloadn (pc := 2) 1 (by decide +kernel : decode cX6_nameOn 2 = .ok (.iload_n 1, 1)) rfl ?_
  refine re_imul (pc := 3) (by decide +kernel : decode cX6_nameOn 3 = .ok (.imul, 1)) ?_
  refine re_iushr (pc := 4) (by decide +kernel : decode cX6_nameOn 4 = .ok (.iushr, 1)) ?_
  refine re_bipush (pc := 5) (31 : Int32) (by decide +kernel : decode cX6_nameOn 5 = .ok (.bipush 31, 2)) (by decide) ?_
  refine re_iand (pc := 7) (by decide +kernel : decode cX6_nameOn 7 = .ok (.iand, 1)) ?_
  refine re_iconst (pc := 8) (1 : Int32) (by decide +kernel : decode cX6_nameOn 8 = .ok (.iconst 1, 1)) (by decide) ?_
  refine re_isub (pc := 9) (by decide +kernel : decode cX6_nameOn 9 = .ok (.isub, 1)) ?_
  cases h
  exact re_iret (fun ty hty => by cases hty; rfl) (by decide +kernel : decode cX6_nameOn 10 = .ok (.ireturn, 1))
theorem metX6_nameOn (n : Nat) (S : rvS) (x0 : Int32) (x1 : Int32) (r : Int32) (h : fnX6_nameOn n S x0 x1 = some r) : rv_Met yX6_nameOn mX6_nameOn 0 [.int x0, .int x1] S (some (.int r)) S := rv_Met.of ⟨by decide +kernel, rfl, (fun z => by first | rfl | cases z), rfl⟩ (Nat.le_of_ble_eq_true rfl) rfl (eX6_nameOn_in n S x0 x1 r h)
noncomputable def fnX6_nameAt (n : Nat) (S : rvS) (a0 : Nat) (x1 : Int32) (x2 : Int32) : Option Int32 :=
  (rv_ck S 5 a0).bind fun u1_ =>
  (fnX6_has n S a0 x1).bind fun x4_ =>
  if x4_ = 0 then (
    some (-1 : Int32))
  else (
    if x2 < 0 then (
      some (-1 : Int32))
    else (
      if (3 : Int32) ≤ x2 then (
        some (-1 : Int32))
      else (
        (rv_gR S 5 a0 4).bind fun a9_ =>
        (rv_aI S 0 a9_ x1).bind fun x11_ =>
        (fnX6_nameOn n S x11_ x2).bind fun x14_ =>
        some x14_)))
set_option maxRecDepth 20000 in
set_option maxHeartbeats 4000000 in
theorem eX6_nameAt_in (n : Nat) (S : rvS) (a0 : Nat) (x1 : Int32) (x2 : Int32) (r : Int32) (h : fnX6_nameAt n S a0 x1 x2 = some r) : rv_Ev mX6_nameAt 1 0 [(0, .ref a0), (1, .int x1), (2, .int x2)] [] S (some (.int r)) S := by
  unfold fnX6_nameAt at h
  refine re_aloadn (pc := 0) 0 (by decide +kernel : decode cX6_nameAt 0 = .ok (.aload_n 0, 1)) rfl ?_
  refine re_iloadn (pc := 1) 1 (by decide +kernel : decode cX6_nameAt 1 = .ok (.iload_n 1, 1)) rfl ?_
  obtain ⟨u1_, g2_, h⟩ := rv_b_e h
  obtain ⟨x4_, g5_, h⟩ := rv_b_e h
  have m3_ := metX6_has n S a0 x1 _ g5_
  refine re_cV (pc := 2) [.int x1] m3_ (rv_okl.k ⟨rfl, rfl⟩) (rv_up.rf _ _) (by decide) (rv_ck_e g2_) ⟨by decide, rfl⟩ (Nat.le_of_ble_eq_true rfl) lVX6_28 rfl (by decide +kernel : decode cX6_nameAt 2 = .ok (.invokevirtual 28, 3)) ?_
  rcases rv_if_e h with ⟨g6_, h⟩ | ⟨g6_, h⟩
  · refine re_if_eq_t (pc := 5) 30 (by decide +kernel : decode cX6_nameAt 5 = .ok (.ifCond .eq 25, 3)) (by decide) g6_ ?_
    refine re_iconst (pc := 30) (-1 : Int32) (by decide +kernel : decode cX6_nameAt 30 = .ok (.iconst (-1), 1)) (by decide) ?_
    cases h
    exact re_iret (fun ty hty => by cases hty; rfl) (by decide +kernel : decode cX6_nameAt 31 = .ok (.ireturn, 1))
  · refine re_if_eq_f (pc := 5) 30 (by decide +kernel : decode cX6_nameAt 5 = .ok (.ifCond .eq 25, 3)) (by decide) g6_ ?_
    refine re_iloadn (pc := 8) 2 (by decide +kernel : decode cX6_nameAt 8 = .ok (.iload_n 2, 1)) rfl ?_
    rcases rv_if_e h with ⟨g7_, h⟩ | ⟨g7_, h⟩
    · refine re_if_lt_t (pc := 9) 30 (by decide +kernel : decode cX6_nameAt 9 = .ok (.ifCond .lt 21, 3)) (by decide) g7_ ?_
      refine re_iconst (pc := 30) (-1 : Int32) (by decide +kernel : decode cX6_nameAt 30 = .ok (.iconst (-1), 1)) (by decide) ?_
      cases h
      exact re_iret (fun ty hty => by cases hty; rfl) (by decide +kernel : decode cX6_nameAt 31 = .ok (.ireturn, 1))
    · refine re_if_lt_f (pc := 9) 30 (by decide +kernel : decode cX6_nameAt 9 = .ok (.ifCond .lt 21, 3)) (by decide) g7_ ?_
      refine re_iloadn (pc := 12) 2 (by decide +kernel : decode cX6_nameAt 12 = .ok (.iload_n 2, 1)) rfl ?_
      refine re_iconst (pc := 13) (3 : Int32) (by decide +kernel : decode cX6_nameAt 13 = .ok (.iconst 3, 1)) (by decide) ?_
      rcases rv_if_e h with ⟨g8_, h⟩ | ⟨g8_, h⟩
      · refine re_icmp_ge_t (pc := 14) 30 (by decide +kernel : decode cX6_nameAt 14 = .ok (.if_icmp .ge 16, 3)) (by decide) g8_ ?_
        refine re_iconst (pc := 30) (-1 : Int32) (by decide +kernel : decode cX6_nameAt 30 = .ok (.iconst (-1), 1)) (by decide) ?_
        cases h
        exact re_iret (fun ty hty => by cases hty; rfl) (by decide +kernel : decode cX6_nameAt 31 = .ok (.ireturn, 1))
      · refine re_icmp_ge_f (pc := 14) 30 (by decide +kernel : decode cX6_nameAt 14 = .ok (.if_icmp .ge 16, 3)) (by decide) g8_ ?_
        refine re_aloadn (pc := 17) 0 (by decide +kernel : decode cX6_nameAt 17 = .ok (.aload_n 0, 1)) rfl ?_
        obtain ⟨a9_, g10_, h⟩ := rv_b_e h
        refine re_gR (pc := 18) g10_ lfX6_22 rfl (by decide +kernel : decode cX6_nameAt 18 = .ok (.getfield 22, 3)) ?_
        refine re_iloadn (pc := 21) 1 (by decide +kernel : decode cX6_nameAt 21 = .ok (.iload_n 1, 1)) rfl ?_
        obtain ⟨x11_, g12_, h⟩ := rv_b_e h
        refine re_aI (pc := 22) g12_ (by decide +kernel : decode cX6_nameAt 22 = .ok (.iaload, 1)) ?_
        refine re_iloadn (pc := 23) 2 (by decide +kernel : decode cX6_nameAt 23 = .ok (.iload_n 2, 1)) rfl ?_
        obtain ⟨x14_, g15_, h⟩ := rv_b_e h
        have m13_ := metX6_nameOn n S x11_ x2 _ g15_
        refine re_cS (pc := 24) [.int x11_, .int x2] m13_ (rv_okl.k ⟨rfl, rfl⟩) (rv_up.rf _ _) (by decide) (Nat.le_of_ble_eq_true rfl) lSX6_32 rfl (by decide +kernel : decode cX6_nameAt 24 = .ok (.invokestatic 32, 3)) ?_
        refine re_goto (pc := 27) 31 (by decide +kernel : decode cX6_nameAt 27 = .ok (.goto 4, 3)) (by decide) ?_
        cases h
        exact re_iret (fun ty hty => by cases hty; rfl) (by decide +kernel : decode cX6_nameAt 31 = .ok (.ireturn, 1))
theorem metX6_nameAt (n : Nat) (S : rvS) (a0 : Nat) (x1 : Int32) (x2 : Int32) (r : Int32) (h : fnX6_nameAt n S a0 x1 x2 = some r) : rv_Met yX6_nameAt mX6_nameAt 1 [.ref a0, .int x1, .int x2] S (some (.int r)) S := rv_Met.of ⟨by decide +kernel, rfl, (fun z => by first | rfl | cases z), rfl⟩ (Nat.le_of_ble_eq_true rfl) rfl (eX6_nameAt_in n S a0 x1 x2 r h)
noncomputable def cX6_names_4 (n : Nat) (S : rvS) : Nat → Nat → Int32 → Int32 → Int32 → Option Int32
  | 0, _, _, _, _ => none
  | k + 1, a0, x1, x2, x3 =>
    if (3 : Int32) ≤ x3 then (
      some x2)
    else (
      (rv_ck S 5 a0).bind fun u2_ =>
      (fnX6_nameAt n S a0 x1 x3).bind fun x5_ =>
      if x5_ = (-1 : Int32) then (
        rv_lt (x3 + (1)) fun x8_ =>
        cX6_names_4 n S k a0 x1 x2 x8_)
      else (
        rv_lt (x2 + (1)) fun x10_ =>
        rv_lt (x3 + (1)) fun x12_ =>
        cX6_names_4 n S k a0 x1 x10_ x12_))
set_option maxRecDepth 20000 in
set_option maxHeartbeats 4000000 in
theorem eX6_names_4 (n : Nat) (S : rvS) : ∀ (k : Nat) (a0 : Nat) (x1 : Int32) (x2 : Int32) (x3 : Int32) (r : Int32), cX6_names_4 n S k a0 x1 x2 x3 = some r → rv_Ev mX6_names 2 4 [(0, .ref a0), (1, .int x1), (2, .int x2), (3, .int x3)] [] S (some (.int r)) S := by
  intro k
  induction k with
  | zero => intro a0 x1 x2 x3 r h; exact absurd h (by simp [cX6_names_4])
  | succ k ih =>
    intro a0 x1 x2 x3 r h
    unfold cX6_names_4 at h
    refine re_iloadn (pc := 4) 3 (by decide +kernel : decode cX6_names 4 = .ok (.iload_n 3, 1)) rfl ?_
    refine re_iconst (pc := 5) (3 : Int32) (by decide +kernel : decode cX6_names 5 = .ok (.iconst 3, 1)) (by decide) ?_
    rcases rv_if_e h with ⟨g1_, h⟩ | ⟨g1_, h⟩
    · refine re_icmp_ge_t (pc := 6) 28 (by decide +kernel : decode cX6_names 6 = .ok (.if_icmp .ge 22, 3)) (by decide) g1_ ?_
      refine re_iloadn (pc := 28) 2 (by decide +kernel : decode cX6_names 28 = .ok (.iload_n 2, 1)) rfl ?_
      cases h
      exact re_iret (fun ty hty => by cases hty; rfl) (by decide +kernel : decode cX6_names 29 = .ok (.ireturn, 1))
    · refine re_icmp_ge_f (pc := 6) 28 (by decide +kernel : decode cX6_names 6 = .ok (.if_icmp .ge 22, 3)) (by decide) g1_ ?_
      refine re_aloadn (pc := 9) 0 (by decide +kernel : decode cX6_names 9 = .ok (.aload_n 0, 1)) rfl ?_
      refine re_iloadn (pc := 10) 1 (by decide +kernel : decode cX6_names 10 = .ok (.iload_n 1, 1)) rfl ?_
      refine re_iloadn (pc := 11) 3 (by decide +kernel : decode cX6_names 11 = .ok (.iload_n 3, 1)) rfl ?_
      obtain ⟨u2_, g3_, h⟩ := rv_b_e h
      obtain ⟨x5_, g6_, h⟩ := rv_b_e h
      have m4_ := metX6_nameAt n S a0 x1 x3 _ g6_
      refine re_cV (pc := 12) [.int x1, .int x3] m4_ (rv_okl.k ⟨rfl, rfl⟩) (rv_up.rf _ _) (by decide) (rv_ck_e g3_) ⟨by decide, rfl⟩ (Nat.le_of_ble_eq_true rfl) lVX6_36 rfl (by decide +kernel : decode cX6_names 12 = .ok (.invokevirtual 36, 3)) ?_
      refine re_iconst (pc := 15) (-1 : Int32) (by decide +kernel : decode cX6_names 15 = .ok (.iconst (-1), 1)) (by decide) ?_
      rcases rv_if_e h with ⟨g7_, h⟩ | ⟨g7_, h⟩
      · refine re_icmp_eq_t (pc := 16) 22 (by decide +kernel : decode cX6_names 16 = .ok (.if_icmp .eq 6, 3)) (by decide) g7_ ?_
        obtain ⟨x8_, g9_, h⟩ := rv_lt_e h
        refine re_iinc (pc := 22) 3 x8_ (lv1 := [(3, .int x8_), (0, .ref a0), (1, .int x1), (2, .int x2)]) (by decide +kernel : decode cX6_names 22 = .ok (.iinc 3 1, 3)) rfl g9_ (by decide) rfl ?_
        refine re_goto (pc := 25) 4 (by decide +kernel : decode cX6_names 25 = .ok (.goto (-21), 3)) (by decide) ?_
        refine re_sub [1, 2, 3, 0] (lv1 := [(0, .ref a0), (1, .int x1), (2, .int x2), (3, .int x8_)]) rfl ?_
        exact ih a0 x1 x2 x8_ _ h
      · refine re_icmp_eq_f (pc := 16) 22 (by decide +kernel : decode cX6_names 16 = .ok (.if_icmp .eq 6, 3)) (by decide) g7_ ?_
        obtain ⟨x10_, g11_, h⟩ := rv_lt_e h
        refine re_iinc (pc := 19) 2 x10_ (lv1 := [(2, .int x10_), (0, .ref a0), (1, .int x1), (3, .int x3)]) (by decide +kernel : decode cX6_names 19 = .ok (.iinc 2 1, 3)) rfl g11_ (by decide) rfl ?_
        obtain ⟨x12_, g13_, h⟩ := rv_lt_e h
        refine re_iinc (pc := 22) 3 x12_ (lv1 := [(3, .int x12_), (2, .int x10_), (0, .ref a0), (1, .int x1)]) (by decide +kernel : decode cX6_names 22 = .ok (.iinc 3 1, 3)) rfl g13_ (by decide) rfl ?_
        refine re_goto (pc := 25) 4 (by decide +kernel : decode cX6_names 25 = .ok (.goto (-21), 3)) (by decide) ?_
        refine re_sub [2, 3, 1, 0] (lv1 := [(0, .ref a0), (1, .int x1), (2, .int x10_), (3, .int x12_)]) rfl ?_
        exact ih a0 x1 x10_ x12_ _ h
noncomputable def fnX6_names (n : Nat) (S : rvS) (a0 : Nat) (x1 : Int32) : Option Int32 :=
  cX6_names_4 n S n a0 x1 (0 : Int32) (0 : Int32)
set_option maxRecDepth 20000 in
set_option maxHeartbeats 4000000 in
theorem eX6_names_in (n : Nat) (S : rvS) (a0 : Nat) (x1 : Int32) (r : Int32) (h : fnX6_names n S a0 x1 = some r) : rv_Ev mX6_names 2 0 [(0, .ref a0), (1, .int x1)] [] S (some (.int r)) S := by
  unfold fnX6_names at h
  refine re_iconst (pc := 0) (0 : Int32) (by decide +kernel : decode cX6_names 0 = .ok (.iconst 0, 1)) (by decide) ?_
  refine re_istoren (pc := 1) (lv1 := [(2, .int (0 : Int32)), (0, .ref a0), (1, .int x1)]) (by decide +kernel : decode cX6_names 1 = .ok (.istore_n 2, 1)) rfl (by decide) rfl ?_
  refine re_iconst (pc := 2) (0 : Int32) (by decide +kernel : decode cX6_names 2 = .ok (.iconst 0, 1)) (by decide) ?_
  refine re_istoren (pc := 3) (lv1 := [(3, .int (0 : Int32)), (2, .int (0 : Int32)), (0, .ref a0), (1, .int x1)]) (by decide +kernel : decode cX6_names 3 = .ok (.istore_n 3, 1)) rfl (by decide) rfl ?_
  refine re_sub [2, 3, 1, 0] (lv1 := [(0, .ref a0), (1, .int x1), (2, .int (0 : Int32)), (3, .int (0 : Int32))]) rfl ?_
  exact eX6_names_4 n S n a0 x1 (0 : Int32) (0 : Int32) _ h
theorem metX6_names (n : Nat) (S : rvS) (a0 : Nat) (x1 : Int32) (r : Int32) (h : fnX6_names n S a0 x1 = some r) : rv_Met yX6_names mX6_names 2 [.ref a0, .int x1] S (some (.int r)) S := rv_Met.of ⟨by decide +kernel, rfl, (fun z => by first | rfl | cases z), rfl⟩ (Nat.le_of_ble_eq_true rfl) rfl (eX6_names_in n S a0 x1 r h)
noncomputable def cX9_standsTwice_5 (n : Nat) (S : rvS) : Nat → Nat → Int32 → Int32 → Int32 → Option Int32
  | 0, _, _, _, _ => none
  | k + 1, a0, x1, x3, x4 =>
    if (3 : Int32) ≤ x4 then (
      some (0 : Int32))
    else (
      (rv_gR S 8 a0 1).bind fun a2_ =>
      (rv_ck S 5 a2_).bind fun u4_ =>
      (fnX6_nameAt n S a2_ x1 x4).bind fun x7_ =>
      if x7_ = x3 then (
        some (1 : Int32))
      else (
        rv_lt (x4 + (1)) fun x10_ =>
        cX9_standsTwice_5 n S k a0 x1 x3 x10_))
set_option maxRecDepth 20000 in
set_option maxHeartbeats 4000000 in
theorem eX9_standsTwice_5 (n : Nat) (S : rvS) : ∀ (k : Nat) (a0 : Nat) (x1 : Int32) (x3 : Int32) (x4 : Int32) (r : Int32), cX9_standsTwice_5 n S k a0 x1 x3 x4 = some r → rv_Ev mX9_standsTwice 2 5 [(0, .ref a0), (1, .int x1), (3, .int x3), (4, .int x4)] [] S (some (.int r)) S := by
  intro k
  induction k with
  | zero => intro a0 x1 x3 x4 r h; exact absurd h (by simp [cX9_standsTwice_5])
  | succ k ih =>
    intro a0 x1 x3 x4 r h
    unfold cX9_standsTwice_5 at h
    refine re_iload (pc := 5) 3 (by decide +kernel : decode cX9_standsTwice 5 = .ok (.iload 4, 2)) rfl ?_
    refine re_iconst (pc := 7) (3 : Int32) (by decide +kernel : decode cX9_standsTwice 7 = .ok (.iconst 3, 1)) (by decide) ?_
    rcases rv_if_e h with ⟨g1_, h⟩ | ⟨g1_, h⟩
    · refine re_icmp_ge_t (pc := 8) 33 (by decide +kernel : decode cX9_standsTwice 8 = .ok (.if_icmp .ge 25, 3)) (by decide) g1_ ?_
      refine re_iconst (pc := 33) (0 : Int32) (by decide +kernel : decode cX9_standsTwice 33 = .ok (.iconst 0, 1)) (by decide) ?_
      cases h
      exact re_iret (fun ty hty => by cases hty; rfl) (by decide +kernel : decode cX9_standsTwice 34 = .ok (.ireturn, 1))
    · refine re_icmp_ge_f (pc := 8) 33 (by decide +kernel : decode cX9_standsTwice 8 = .ok (.if_icmp .ge 25, 3)) (by decide) g1_ ?_
      refine re_aloadn (pc := 11) 0 (by decide +kernel : decode cX9_standsTwice 11 = .ok (.aload_n 0, 1)) rfl ?_
      obtain ⟨a2_, g3_, h⟩ := rv_b_e h
      refine re_gR (pc := 12) g3_ lfX9_21 rfl (by decide +kernel : decode cX9_standsTwice 12 = .ok (.getfield 21, 3)) ?_
      refine re_iloadn (pc := 15) 1 (by decide +kernel : decode cX9_standsTwice 15 = .ok (.iload_n 1, 1)) rfl ?_
      refine re_iload (pc := 16) 3 (by decide +kernel : decode cX9_standsTwice 16 = .ok (.iload 4, 2)) rfl ?_
      obtain ⟨u4_, g5_, h⟩ := rv_b_e h
      obtain ⟨x7_, g8_, h⟩ := rv_b_e h
      have m6_ := metX6_nameAt n S a2_ x1 x4 _ g8_
      refine re_cV (pc := 18) [.int x1, .int x4] m6_ (rv_okl.k ⟨rfl, rfl⟩) (rv_up.rf _ _) (by decide) (rv_ck_e g5_) ⟨by decide, rfl⟩ (Nat.le_of_ble_eq_true rfl) lVX9_90 rfl (by decide +kernel : decode cX9_standsTwice 18 = .ok (.invokevirtual 90, 3)) ?_
      refine re_iloadn (pc := 21) 2 (by decide +kernel : decode cX9_standsTwice 21 = .ok (.iload_n 3, 1)) rfl ?_
      rcases rv_if_e h with ⟨g9_, h⟩ | ⟨g9_, h⟩
      · refine re_icmp_ne_f (pc := 22) 27 (by decide +kernel : decode cX9_standsTwice 22 = .ok (.if_icmp .ne 5, 3)) (by decide) g9_ ?_
        refine re_iconst (pc := 25) (1 : Int32) (by decide +kernel : decode cX9_standsTwice 25 = .ok (.iconst 1, 1)) (by decide) ?_
        cases h
        exact re_iret (fun ty hty => by cases hty; rfl) (by decide +kernel : decode cX9_standsTwice 26 = .ok (.ireturn, 1))
      · refine re_icmp_ne_t (pc := 22) 27 (by decide +kernel : decode cX9_standsTwice 22 = .ok (.if_icmp .ne 5, 3)) (by decide) g9_ ?_
        obtain ⟨x10_, g11_, h⟩ := rv_lt_e h
        refine re_iinc (pc := 27) 3 x10_ (lv1 := [(4, .int x10_), (0, .ref a0), (1, .int x1), (3, .int x3)]) (by decide +kernel : decode cX9_standsTwice 27 = .ok (.iinc 4 1, 3)) rfl g11_ (by decide) rfl ?_
        refine re_goto (pc := 30) 5 (by decide +kernel : decode cX9_standsTwice 30 = .ok (.goto (-25), 3)) (by decide) ?_
        refine re_sub [1, 2, 3, 0] (lv1 := [(0, .ref a0), (1, .int x1), (3, .int x3), (4, .int x10_)]) rfl ?_
        exact ih a0 x1 x3 x10_ _ h
noncomputable def fnX9_standsTwice (n : Nat) (S : rvS) (a0 : Nat) (x1 : Int32) (x2 : Int32) (x3 : Int32) : Option Int32 :=
  rv_lt (x2 + (1 : Int32)) fun x1_ =>
  cX9_standsTwice_5 n S n a0 x1 x3 x1_
set_option maxRecDepth 20000 in
set_option maxHeartbeats 4000000 in
theorem eX9_standsTwice_in (n : Nat) (S : rvS) (a0 : Nat) (x1 : Int32) (x2 : Int32) (x3 : Int32) (r : Int32) (h : fnX9_standsTwice n S a0 x1 x2 x3 = some r) : rv_Ev mX9_standsTwice 2 0 [(0, .ref a0), (1, .int x1), (2, .int x2), (3, .int x3)] [] S (some (.int r)) S := by
  unfold fnX9_standsTwice at h
  refine re_iloadn (pc := 0) 2 (by decide +kernel : decode cX9_standsTwice 0 = .ok (.iload_n 2, 1)) rfl ?_
  refine re_iconst (pc := 1) (1 : Int32) (by decide +kernel : decode cX9_standsTwice 1 = .ok (.iconst 1, 1)) (by decide) ?_
  refine re_iadd (pc := 2) (by decide +kernel : decode cX9_standsTwice 2 = .ok (.iadd, 1)) ?_
  obtain ⟨x1_, g2_, h⟩ := rv_lt_e h
  refine re_nI (pc := 3) g2_ ?_
  refine re_istore (pc := 3) (lv1 := [(4, .int x1_), (0, .ref a0), (1, .int x1), (2, .int x2), (3, .int x3)]) (by decide +kernel : decode cX9_standsTwice 3 = .ok (.istore 4, 2)) (by decide) rfl ?_
  refine re_sub [1, 2, 4, 0] (lv1 := [(0, .ref a0), (1, .int x1), (3, .int x3), (4, .int x1_)]) rfl ?_
  exact eX9_standsTwice_5 n S n a0 x1 x3 x1_ _ h
theorem metX9_standsTwice (n : Nat) (S : rvS) (a0 : Nat) (x1 : Int32) (x2 : Int32) (x3 : Int32) (r : Int32) (h : fnX9_standsTwice n S a0 x1 x2 x3 = some r) : rv_Met yX9_standsTwice mX9_standsTwice 2 [.ref a0, .int x1, .int x2, .int x3] S (some (.int r)) S := rv_Met.of ⟨by decide +kernel, rfl, (fun z => by first | rfl | cases z), rfl⟩ (Nat.le_of_ble_eq_true rfl) rfl (eX9_standsTwice_in n S a0 x1 x2 x3 r h)
