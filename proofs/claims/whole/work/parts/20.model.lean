noncomputable def fnX13_init (n : Nat) (S : rvS) (a0 : Nat) : Option rvS :=
  (rv_vl S a0).bind fun _ =>
  rv_lt (64 + S.1.length) fun a2_ =>
  rv_lt (rv_new S (50, 940)) fun S4_ =>
  (rv_pR S4_ 11 a0 1 a2_).bind fun S8_ =>
  rv_lt (64 + S8_.1.length) fun a12_ =>
  rv_lt (rv_new S8_ (50, 662)) fun S14_ =>
  (rv_pR S14_ 11 a0 14 a12_).bind fun S19_ =>
  rv_lt (64 + S19_.1.length) fun a24_ =>
  rv_lt (rv_new S19_ (50, 420)) fun S26_ =>
  (rv_pR S26_ 11 a0 15 a24_).bind fun S32_ =>
  rv_lt (64 + S32_.1.length) fun a38_ =>
  rv_lt (rv_new S32_ (50, 1324)) fun S40_ =>
  (rv_pR S40_ 11 a0 16 a38_).bind fun S47_ =>
  rv_lt (64 + S47_.1.length) fun a54_ =>
  rv_lt (rv_new S47_ (50, 420)) fun S56_ =>
  (rv_pR S56_ 11 a0 17 a54_).bind fun S64_ =>
  rv_lt (64 + S64_.1.length) fun a72_ =>
  rv_lt (rv_new S64_ (51, 16)) fun S74_ =>
  (rv_pR S74_ 11 a0 18 a72_).bind fun S83_ =>
  rv_lt (64 + S83_.1.length) fun a92_ =>
  rv_lt (rv_new S83_ (51, 16)) fun S94_ =>
  (rv_pR S94_ 11 a0 19 a92_).bind fun S104_ =>
  rv_lt (64 + S104_.1.length) fun a114_ =>
  rv_lt (rv_new S104_ (51, 32)) fun S116_ =>
  (rv_pR S116_ 11 a0 20 a114_).bind fun S127_ =>
  rv_lt (64 + S127_.1.length) fun a138_ =>
  rv_lt (rv_new S127_ (53, 2)) fun S140_ =>
  (rv_pR S140_ 11 a0 21 a138_).bind fun S152_ =>
  rv_lt (64 + S152_.1.length) fun a164_ =>
  rv_lt (rv_new S152_ (50, 5)) fun S166_ =>
  (rv_pR S166_ 11 a0 24 a164_).bind fun S179_ =>
  rv_lt (64 + S179_.1.length) fun a192_ =>
  rv_lt (rv_new S179_ (50, 410000)) fun S194_ =>
  (rv_pR S194_ 11 a0 25 a192_).bind fun S208_ =>
  rv_lt (64 + S208_.1.length) fun a222_ =>
  rv_lt (rv_new S208_ (50, 40)) fun S224_ =>
  (rv_pR S224_ 11 a0 26 a222_).bind fun S239_ =>
  rv_lt (64 + S239_.1.length) fun a254_ =>
  rv_lt (rv_new S239_ (50, 40)) fun S256_ =>
  (rv_pR S256_ 11 a0 27 a254_).bind fun S272_ =>
  (rv_pI S272_ 11 a0 28 (-1 : Int32)).bind fun S288_ =>
  rv_lt (64 + S288_.1.length) fun a304_ =>
  rv_lt (rv_new S288_ (53, 100)) fun S306_ =>
  (rv_pR S306_ 11 a0 29 a304_).bind fun S323_ =>
  rv_lt (64 + S323_.1.length) fun a340_ =>
  rv_lt (rv_new S323_ (53, 100)) fun S342_ =>
  (rv_pR S342_ 11 a0 30 a340_).bind fun S360_ =>
  rv_lt (64 + S360_.1.length) fun a378_ =>
  rv_lt (rv_new S360_ (50, 390625)) fun S380_ =>
  (rv_pR S380_ 11 a0 31 a378_).bind fun S399_ =>
  rv_lt (64 + S399_.1.length) fun a418_ =>
  rv_lt (rv_new S399_ (50, 390625)) fun S420_ =>
  (rv_pR S420_ 11 a0 32 a418_).bind fun S440_ =>
  rv_lt (64 + S440_.1.length) fun a460_ =>
  rv_lt (rv_new S440_ (50, 390625)) fun S462_ =>
  (rv_pR S462_ 11 a0 33 a460_).bind fun S483_ =>
  rv_lt (64 + S483_.1.length) fun a504_ =>
  rv_lt (rv_new S483_ (50, 2000)) fun S506_ =>
  (rv_pR S506_ 11 a0 34 a504_).bind fun S528_ =>
  rv_lt (64 + S528_.1.length) fun a550_ =>
  rv_lt (rv_new S528_ (50, 5)) fun S552_ =>
  (rv_pR S552_ 11 a0 38 a550_).bind fun S575_ =>
  rv_lt (64 + S575_.1.length) fun a598_ =>
  rv_lt (rv_new S575_ (50, 5)) fun S600_ =>
  (rv_pR S600_ 11 a0 39 a598_).bind fun S624_ =>
  rv_lt (64 + S624_.1.length) fun a648_ =>
  rv_lt (rv_new S624_ (50, 5)) fun S650_ =>
  (rv_pR S650_ 11 a0 40 a648_).bind fun S675_ =>
  rv_lt (64 + S675_.1.length) fun a700_ =>
  rv_lt (rv_new S675_ (50, 5)) fun S702_ =>
  (rv_pR S702_ 11 a0 44 a700_).bind fun S728_ =>
  rv_lt (64 + S728_.1.length) fun a754_ =>
  rv_lt (rv_new S728_ (50, 5)) fun S756_ =>
  (rv_pR S756_ 11 a0 45 a754_).bind fun S783_ =>
  rv_lt (64 + S783_.1.length) fun a810_ =>
  rv_lt (rv_new S783_ (50, 5)) fun S812_ =>
  (rv_pR S812_ 11 a0 46 a810_).bind fun S840_ =>
  rv_lt (64 + S840_.1.length) fun a868_ =>
  rv_lt (rv_new S840_ (50, 3)) fun S870_ =>
  (rv_uI S870_ a868_ (0 : Int32) (-1 : Int32)).bind fun S899_ =>
  (rv_uI S899_ a868_ (1 : Int32) (-1 : Int32)).bind fun S928_ =>
  (rv_uI S928_ a868_ (2 : Int32) (-1 : Int32)).bind fun S957_ =>
  (rv_pR S957_ 11 a0 54 a868_).bind fun S986_ =>
  rv_lt (64 + S986_.1.length) fun a1015_ =>
  rv_lt (rv_new S986_ (50, 240)) fun S1017_ =>
  (rv_pR S1017_ 11 a0 55 a1015_).bind fun S1047_ =>
  some S1047_
set_option maxRecDepth 20000 in
set_option maxHeartbeats 4000000 in
theorem eX13_init_in (n : Nat) (S : rvS) (a0 : Nat) (S' : rvS) (h : fnX13_init n S a0 = some S') : rv_Ev mX13_init 1 0 [(0, .ref a0)] [] S none S' := by
  unfold fnX13_init at h
  obtain ⟨_, g1_, h⟩ := rv_b_e h
  refine re_aloadn (pc := 0) 0 (by decide +kernel : decode cX13_init 0 = .ok (.aload_n 0, 1)) rfl ?_
  refine re_obj (pc := 1) (rw6 231 (by decide +kernel) rfl) rwoi rwoc (Nat.le_of_ble_eq_true rfl) (by decide) (by decide +kernel : decode cX13_init 1 = .ok (.invokespecial 1, 3)) ?_
  refine re_aloadn (pc := 4) 0 (by decide +kernel : decode cX13_init 4 = .ok (.aload_n 0, 1)) rfl ?_
  refine re_sipush (pc := 5) (940 : Int32) (by decide +kernel : decode cX13_init 5 = .ok (.sipush 940, 3)) (by decide) ?_
  refine re_newa (pc := 8) (t := 0) (N := 940) rfl (rv_alv (List.forall_mem_cons.mpr ⟨(rv_vl_e g1_), (fun _ z => absurd z List.not_mem_nil)⟩)) ((List.forall_mem_cons.mpr ⟨(rv_vl_e g1_), (fun _ z => absurd z List.not_mem_nil)⟩)) (by decide) rfl (rw1 137 (by decide +kernel) rfl) (by decide) (by decide) (by decide) (by decide +kernel : decode cX13_init 8 = .ok (.newarray .int, 2)) ?_
  obtain ⟨a2_, g3_, h⟩ := rv_lt_e h
  refine re_nR g3_ ?_
  obtain ⟨S4_, g5_, h⟩ := rv_lt_e h
  refine re_nS g5_ ?_
  have o6_ : a0 < 64 + S4_.1.length := rv_okn g5_ (rv_vl_e g1_)
  have o7_ : a2_ < 64 + S4_.1.length := by rw [← g3_]; exact rv_okn0 g5_
  obtain ⟨S8_, g9_, h⟩ := rv_b_e h
  have o10_ : a0 < 64 + S8_.1.length := by rw [rv_pR_sh g9_]; exact o6_
  have o11_ : a2_ < 64 + S8_.1.length := by rw [rv_pR_sh g9_]; exact o7_
  refine re_pR (pc := 10) g9_ lfX13_7 rfl (Or.inr ⟨rfl, rfl, rfl, (rw6 235 (by decide +kernel) rfl)⟩) (by decide +kernel : decode cX13_init 10 = .ok (.putfield 7, 3)) ?_
  refine re_aloadn (pc := 13) 0 (by decide +kernel : decode cX13_init 13 = .ok (.aload_n 0, 1)) rfl ?_
  refine re_sipush (pc := 14) (662 : Int32) (by decide +kernel : decode cX13_init 14 = .ok (.sipush 662, 3)) (by decide) ?_
  refine re_newa (pc := 17) (t := 0) (N := 662) rfl (rv_alv (List.forall_mem_cons.mpr ⟨o10_, (fun _ z => absurd z List.not_mem_nil)⟩)) ((List.forall_mem_cons.mpr ⟨o10_, (fun _ z => absurd z List.not_mem_nil)⟩)) (by decide) rfl (rw1 137 (by decide +kernel) rfl) (by decide) (by decide) (by decide) (by decide +kernel : decode cX13_init 17 = .ok (.newarray .int, 2)) ?_
  obtain ⟨a12_, g13_, h⟩ := rv_lt_e h
  refine re_nR g13_ ?_
  obtain ⟨S14_, g15_, h⟩ := rv_lt_e h
  refine re_nS g15_ ?_
  have o16_ : a0 < 64 + S14_.1.length := rv_okn g15_ o10_
  have o17_ : a2_ < 64 + S14_.1.length := rv_okn g15_ o11_
  have o18_ : a12_ < 64 + S14_.1.length := by rw [← g13_]; exact rv_okn0 g15_
  obtain ⟨S19_, g20_, h⟩ := rv_b_e h
  have o21_ : a0 < 64 + S19_.1.length := by rw [rv_pR_sh g20_]; exact o16_
  have o22_ : a2_ < 64 + S19_.1.length := by rw [rv_pR_sh g20_]; exact o17_
  have o23_ : a12_ < 64 + S19_.1.length := by rw [rv_pR_sh g20_]; exact o18_
  refine re_pR (pc := 19) g20_ lfX13_13 rfl (Or.inr ⟨rfl, rfl, rfl, (rw7 8 (by decide +kernel) rfl)⟩) (by decide +kernel : decode cX13_init 19 = .ok (.putfield 13, 3)) ?_
  refine re_aloadn (pc := 22) 0 (by decide +kernel : decode cX13_init 22 = .ok (.aload_n 0, 1)) rfl ?_
  refine re_sipush (pc := 23) (420 : Int32) (by decide +kernel : decode cX13_init 23 = .ok (.sipush 420, 3)) (by decide) ?_
  refine re_newa (pc := 26) (t := 0) (N := 420) rfl (rv_alv (List.forall_mem_cons.mpr ⟨o21_, (fun _ z => absurd z List.not_mem_nil)⟩)) ((List.forall_mem_cons.mpr ⟨o21_, (fun _ z => absurd z List.not_mem_nil)⟩)) (by decide) rfl (rw1 137 (by decide +kernel) rfl) (by decide) (by decide) (by decide) (by decide +kernel : decode cX13_init 26 = .ok (.newarray .int, 2)) ?_
  obtain ⟨a24_, g25_, h⟩ := rv_lt_e h
  refine re_nR g25_ ?_
  obtain ⟨S26_, g27_, h⟩ := rv_lt_e h
  refine re_nS g27_ ?_
  have o28_ : a0 < 64 + S26_.1.length := rv_okn g27_ o21_
  have o29_ : a2_ < 64 + S26_.1.length := rv_okn g27_ o22_
  have o30_ : a12_ < 64 + S26_.1.length := rv_okn g27_ o23_
  have o31_ : a24_ < 64 + S26_.1.length := by rw [← g25_]; exact rv_okn0 g27_
  obtain ⟨S32_, g33_, h⟩ := rv_b_e h
  have o34_ : a0 < 64 + S32_.1.length := by rw [rv_pR_sh g33_]; exact o28_
  have o35_ : a2_ < 64 + S32_.1.length := by rw [rv_pR_sh g33_]; exact o29_
  have o36_ : a12_ < 64 + S32_.1.length := by rw [rv_pR_sh g33_]; exact o30_
  have o37_ : a24_ < 64 + S32_.1.length := by rw [rv_pR_sh g33_]; exact o31_
  refine re_pR (pc := 28) g33_ lfX13_16 rfl (Or.inr ⟨rfl, rfl, rfl, (rw7 9 (by decide +kernel) rfl)⟩) (by decide +kernel : decode cX13_init 28 = .ok (.putfield 16, 3)) ?_
  refine re_aloadn (pc := 31) 0 (by decide +kernel : decode cX13_init 31 = .ok (.aload_n 0, 1)) rfl ?_
  refine re_sipush (pc := 32) (1324 : Int32) (by decide +kernel : decode cX13_init 32 = .ok (.sipush 1324, 3)) (by decide) ?_
  refine re_newa (pc := 35) (t := 0) (N := 1324) rfl (rv_alv (List.forall_mem_cons.mpr ⟨o34_, (fun _ z => absurd z List.not_mem_nil)⟩)) ((List.forall_mem_cons.mpr ⟨o34_, (fun _ z => absurd z List.not_mem_nil)⟩)) (by decide) rfl (rw1 137 (by decide +kernel) rfl) (by decide) (by decide) (by decide) (by decide +kernel : decode cX13_init 35 = .ok (.newarray .int, 2)) ?_
  obtain ⟨a38_, g39_, h⟩ := rv_lt_e h
  refine re_nR g39_ ?_
  obtain ⟨S40_, g41_, h⟩ := rv_lt_e h
  refine re_nS g41_ ?_
  have o42_ : a0 < 64 + S40_.1.length := rv_okn g41_ o34_
  have o43_ : a2_ < 64 + S40_.1.length := rv_okn g41_ o35_
  have o44_ : a12_ < 64 + S40_.1.length := rv_okn g41_ o36_
  have o45_ : a24_ < 64 + S40_.1.length := rv_okn g41_ o37_
  have o46_ : a38_ < 64 + S40_.1.length := by rw [← g39_]; exact rv_okn0 g41_
  obtain ⟨S47_, g48_, h⟩ := rv_b_e h
  have o49_ : a0 < 64 + S47_.1.length := by rw [rv_pR_sh g48_]; exact o42_
  have o50_ : a2_ < 64 + S47_.1.length := by rw [rv_pR_sh g48_]; exact o43_
  have o51_ : a12_ < 64 + S47_.1.length := by rw [rv_pR_sh g48_]; exact o44_
  have o52_ : a24_ < 64 + S47_.1.length := by rw [rv_pR_sh g48_]; exact o45_
  have o53_ : a38_ < 64 + S47_.1.length := by rw [rv_pR_sh g48_]; exact o46_
  refine re_pR (pc := 37) g48_ lfX13_19 rfl (Or.inr ⟨rfl, rfl, rfl, (rw7 10 (by decide +kernel) rfl)⟩) (by decide +kernel : decode cX13_init 37 = .ok (.putfield 19, 3)) ?_
  refine re_aloadn (pc := 40) 0 (by decide +kernel : decode cX13_init 40 = .ok (.aload_n 0, 1)) rfl ?_
  refine re_sipush (pc := 41) (420 : Int32) (by decide +kernel : decode cX13_init 41 = .ok (.sipush 420, 3)) (by decide) ?_
  refine re_newa (pc := 44) (t := 0) (N := 420) rfl (rv_alv (List.forall_mem_cons.mpr ⟨o49_, (fun _ z => absurd z List.not_mem_nil)⟩)) ((List.forall_mem_cons.mpr ⟨o49_, (fun _ z => absurd z List.not_mem_nil)⟩)) (by decide) rfl (rw1 137 (by decide +kernel) rfl) (by decide) (by decide) (by decide) (by decide +kernel : decode cX13_init 44 = .ok (.newarray .int, 2)) ?_
  obtain ⟨a54_, g55_, h⟩ := rv_lt_e h
  refine re_nR g55_ ?_
  obtain ⟨S56_, g57_, h⟩ := rv_lt_e h
  refine re_nS g57_ ?_
  have o58_ : a0 < 64 + S56_.1.length := rv_okn g57_ o49_
  have o59_ : a2_ < 64 + S56_.1.length := rv_okn g57_ o50_
  have o60_ : a12_ < 64 + S56_.1.length := rv_okn g57_ o51_
  have o61_ : a24_ < 64 + S56_.1.length := rv_okn g57_ o52_
  have o62_ : a38_ < 64 + S56_.1.length := rv_okn g57_ o53_
  have o63_ : a54_ < 64 + S56_.1.length := by rw [← g55_]; exact rv_okn0 g57_
  obtain ⟨S64_, g65_, h⟩ := rv_b_e h
  have o66_ : a0 < 64 + S64_.1.length := by rw [rv_pR_sh g65_]; exact o58_
  have o67_ : a2_ < 64 + S64_.1.length := by rw [rv_pR_sh g65_]; exact o59_
  have o68_ : a12_ < 64 + S64_.1.length := by rw [rv_pR_sh g65_]; exact o60_
  have o69_ : a24_ < 64 + S64_.1.length := by rw [rv_pR_sh g65_]; exact o61_
  have o70_ : a38_ < 64 + S64_.1.length := by rw [rv_pR_sh g65_]; exact o62_
  have o71_ : a54_ < 64 + S64_.1.length := by rw [rv_pR_sh g65_]; exact o63_
  refine re_pR (pc := 46) g65_ lfX13_22 rfl (Or.inr ⟨rfl, rfl, rfl, (rw7 11 (by decide +kernel) rfl)⟩) (by decide +kernel : decode cX13_init 46 = .ok (.putfield 22, 3)) ?_
  refine re_aloadn (pc := 49) 0 (by decide +kernel : decode cX13_init 49 = .ok (.aload_n 0, 1)) rfl ?_
  refine re_bipush (pc := 50) (16 : Int32) (by decide +kernel : decode cX13_init 50 = .ok (.bipush 16, 2)) (by decide) ?_
  refine re_newa (pc := 52) (t := 1) (N := 16) rfl (rv_alv (List.forall_mem_cons.mpr ⟨o66_, (fun _ z => absurd z List.not_mem_nil)⟩)) ((List.forall_mem_cons.mpr ⟨o66_, (fun _ z => absurd z List.not_mem_nil)⟩)) (by decide) rfl (rw1 138 (by decide +kernel) rfl) (by decide) (by decide) (by decide) (by decide +kernel : decode cX13_init 52 = .ok (.newarray .long, 2)) ?_
  obtain ⟨a72_, g73_, h⟩ := rv_lt_e h
  refine re_nR g73_ ?_
  obtain ⟨S74_, g75_, h⟩ := rv_lt_e h
  refine re_nS g75_ ?_
  have o76_ : a0 < 64 + S74_.1.length := rv_okn g75_ o66_
  have o77_ : a2_ < 64 + S74_.1.length := rv_okn g75_ o67_
  have o78_ : a12_ < 64 + S74_.1.length := rv_okn g75_ o68_
  have o79_ : a24_ < 64 + S74_.1.length := rv_okn g75_ o69_
  have o80_ : a38_ < 64 + S74_.1.length := rv_okn g75_ o70_
  have o81_ : a54_ < 64 + S74_.1.length := rv_okn g75_ o71_
  have o82_ : a72_ < 64 + S74_.1.length := by rw [← g73_]; exact rv_okn0 g75_
  obtain ⟨S83_, g84_, h⟩ := rv_b_e h
  have o85_ : a0 < 64 + S83_.1.length := by rw [rv_pR_sh g84_]; exact o76_
  have o86_ : a2_ < 64 + S83_.1.length := by rw [rv_pR_sh g84_]; exact o77_
  have o87_ : a12_ < 64 + S83_.1.length := by rw [rv_pR_sh g84_]; exact o78_
  have o88_ : a24_ < 64 + S83_.1.length := by rw [rv_pR_sh g84_]; exact o79_
  have o89_ : a38_ < 64 + S83_.1.length := by rw [rv_pR_sh g84_]; exact o80_
  have o90_ : a54_ < 64 + S83_.1.length := by rw [rv_pR_sh g84_]; exact o81_
  have o91_ : a72_ < 64 + S83_.1.length := by rw [rv_pR_sh g84_]; exact o82_
  refine re_pR (pc := 54) g84_ lfX13_25 rfl (Or.inr ⟨rfl, rfl, rfl, (rw7 12 (by decide +kernel) rfl)⟩) (by decide +kernel : decode cX13_init 54 = .ok (.putfield 25, 3)) ?_
  refine re_aloadn (pc := 57) 0 (by decide +kernel : decode cX13_init 57 = .ok (.aload_n 0, 1)) rfl ?_
  refine re_bipush (pc := 58) (16 : Int32) (by decide +kernel : decode cX13_init 58 = .ok (.bipush 16, 2)) (by decide) ?_
  refine re_newa (pc := 60) (t := 1) (N := 16) rfl (rv_alv (List.forall_mem_cons.mpr ⟨o85_, (fun _ z => absurd z List.not_mem_nil)⟩)) ((List.forall_mem_cons.mpr ⟨o85_, (fun _ z => absurd z List.not_mem_nil)⟩)) (by decide) rfl (rw1 138 (by decide +kernel) rfl) (by decide) (by decide) (by decide) (by decide +kernel : decode cX13_init 60 = .ok (.newarray .long, 2)) ?_
  obtain ⟨a92_, g93_, h⟩ := rv_lt_e h
  refine re_nR g93_ ?_
  obtain ⟨S94_, g95_, h⟩ := rv_lt_e h
  refine re_nS g95_ ?_
  have o96_ : a0 < 64 + S94_.1.length := rv_okn g95_ o85_
  have o97_ : a2_ < 64 + S94_.1.length := rv_okn g95_ o86_
  have o98_ : a12_ < 64 + S94_.1.length := rv_okn g95_ o87_
  have o99_ : a24_ < 64 + S94_.1.length := rv_okn g95_ o88_
  have o100_ : a38_ < 64 + S94_.1.length := rv_okn g95_ o89_
  have o101_ : a54_ < 64 + S94_.1.length := rv_okn g95_ o90_
  have o102_ : a72_ < 64 + S94_.1.length := rv_okn g95_ o91_
  have o103_ : a92_ < 64 + S94_.1.length := by rw [← g93_]; exact rv_okn0 g95_
  obtain ⟨S104_, g105_, h⟩ := rv_b_e h
  have o106_ : a0 < 64 + S104_.1.length := by rw [rv_pR_sh g105_]; exact o96_
  have o107_ : a2_ < 64 + S104_.1.length := by rw [rv_pR_sh g105_]; exact o97_
  have o108_ : a12_ < 64 + S104_.1.length := by rw [rv_pR_sh g105_]; exact o98_
  have o109_ : a24_ < 64 + S104_.1.length := by rw [rv_pR_sh g105_]; exact o99_
  have o110_ : a38_ < 64 + S104_.1.length := by rw [rv_pR_sh g105_]; exact o100_
  have o111_ : a54_ < 64 + S104_.1.length := by rw [rv_pR_sh g105_]; exact o101_
  have o112_ : a72_ < 64 + S104_.1.length := by rw [rv_pR_sh g105_]; exact o102_
  have o113_ : a92_ < 64 + S104_.1.length := by rw [rv_pR_sh g105_]; exact o103_
  refine re_pR (pc := 62) g105_ lfX13_29 rfl (Or.inr ⟨rfl, rfl, rfl, (rw7 13 (by decide +kernel) rfl)⟩) (by decide +kernel : decode cX13_init 62 = .ok (.putfield 29, 3)) ?_
  refine re_aloadn (pc := 65) 0 (by decide +kernel : decode cX13_init 65 = .ok (.aload_n 0, 1)) rfl ?_
  refine re_bipush (pc := 66) (32 : Int32) (by decide +kernel : decode cX13_init 66 = .ok (.bipush 32, 2)) (by decide) ?_
  refine re_newa (pc := 68) (t := 1) (N := 32) rfl (rv_alv (List.forall_mem_cons.mpr ⟨o106_, (fun _ z => absurd z List.not_mem_nil)⟩)) ((List.forall_mem_cons.mpr ⟨o106_, (fun _ z => absurd z List.not_mem_nil)⟩)) (by decide) rfl (rw1 138 (by decide +kernel) rfl) (by decide) (by decide) (by decide) (by decide +kernel : decode cX13_init 68 = .ok (.newarray .long, 2)) ?_
  obtain ⟨a114_, g115_, h⟩ := rv_lt_e h
  refine re_nR g115_ ?_
  obtain ⟨S116_, g117_, h⟩ := rv_lt_e h
  refine re_nS g117_ ?_
  have o118_ : a0 < 64 + S116_.1.length := rv_okn g117_ o106_
  have o119_ : a2_ < 64 + S116_.1.length := rv_okn g117_ o107_
  have o120_ : a12_ < 64 + S116_.1.length := rv_okn g117_ o108_
  have o121_ : a24_ < 64 + S116_.1.length := rv_okn g117_ o109_
  have o122_ : a38_ < 64 + S116_.1.length := rv_okn g117_ o110_
  have o123_ : a54_ < 64 + S116_.1.length := rv_okn g117_ o111_
  have o124_ : a72_ < 64 + S116_.1.length := rv_okn g117_ o112_
  have o125_ : a92_ < 64 + S116_.1.length := rv_okn g117_ o113_
  have o126_ : a114_ < 64 + S116_.1.length := by rw [← g115_]; exact rv_okn0 g117_
  obtain ⟨S127_, g128_, h⟩ := rv_b_e h
  have o129_ : a0 < 64 + S127_.1.length := by rw [rv_pR_sh g128_]; exact o118_
  have o130_ : a2_ < 64 + S127_.1.length := by rw [rv_pR_sh g128_]; exact o119_
  have o131_ : a12_ < 64 + S127_.1.length := by rw [rv_pR_sh g128_]; exact o120_
  have o132_ : a24_ < 64 + S127_.1.length := by rw [rv_pR_sh g128_]; exact o121_
  have o133_ : a38_ < 64 + S127_.1.length := by rw [rv_pR_sh g128_]; exact o122_
  have o134_ : a54_ < 64 + S127_.1.length := by rw [rv_pR_sh g128_]; exact o123_
  have o135_ : a72_ < 64 + S127_.1.length := by rw [rv_pR_sh g128_]; exact o124_
  have o136_ : a92_ < 64 + S127_.1.length := by rw [rv_pR_sh g128_]; exact o125_
  have o137_ : a114_ < 64 + S127_.1.length := by rw [rv_pR_sh g128_]; exact o126_
  refine re_pR (pc := 70) g128_ lfX13_32 rfl (Or.inr ⟨rfl, rfl, rfl, (rw7 14 (by decide +kernel) rfl)⟩) (by decide +kernel : decode cX13_init 70 = .ok (.putfield 32, 3)) ?_
  refine re_aloadn (pc := 73) 0 (by decide +kernel : decode cX13_init 73 = .ok (.aload_n 0, 1)) rfl ?_
  refine re_iconst (pc := 74) (2 : Int32) (by decide +kernel : decode cX13_init 74 = .ok (.iconst 2, 1)) (by decide) ?_
  refine re_newa (pc := 75) (t := 3) (N := 2) rfl (rv_alv (List.forall_mem_cons.mpr ⟨o129_, (fun _ z => absurd z List.not_mem_nil)⟩)) ((List.forall_mem_cons.mpr ⟨o129_, (fun _ z => absurd z List.not_mem_nil)⟩)) (by decide) rfl (rw7 175 (by decide +kernel) rfl) (by decide) (by decide) (by decide) (by decide +kernel : decode cX13_init 75 = .ok (.newarray .boolean, 2)) ?_
  obtain ⟨a138_, g139_, h⟩ := rv_lt_e h
  refine re_nR g139_ ?_
  obtain ⟨S140_, g141_, h⟩ := rv_lt_e h
  refine re_nS g141_ ?_
  have o142_ : a0 < 64 + S140_.1.length := rv_okn g141_ o129_
  have o143_ : a2_ < 64 + S140_.1.length := rv_okn g141_ o130_
  have o144_ : a12_ < 64 + S140_.1.length := rv_okn g141_ o131_
  have o145_ : a24_ < 64 + S140_.1.length := rv_okn g141_ o132_
  have o146_ : a38_ < 64 + S140_.1.length := rv_okn g141_ o133_
  have o147_ : a54_ < 64 + S140_.1.length := rv_okn g141_ o134_
  have o148_ : a72_ < 64 + S140_.1.length := rv_okn g141_ o135_
  have o149_ : a92_ < 64 + S140_.1.length := rv_okn g141_ o136_
  have o150_ : a114_ < 64 + S140_.1.length := rv_okn g141_ o137_
  have o151_ : a138_ < 64 + S140_.1.length := by rw [← g139_]; exact rv_okn0 g141_
  obtain ⟨S152_, g153_, h⟩ := rv_b_e h
  have o154_ : a0 < 64 + S152_.1.length := by rw [rv_pR_sh g153_]; exact o142_
  have o155_ : a2_ < 64 + S152_.1.length := by rw [rv_pR_sh g153_]; exact o143_
  have o156_ : a12_ < 64 + S152_.1.length := by rw [rv_pR_sh g153_]; exact o144_
  have o157_ : a24_ < 64 + S152_.1.length := by rw [rv_pR_sh g153_]; exact o145_
  have o158_ : a38_ < 64 + S152_.1.length := by rw [rv_pR_sh g153_]; exact o146_
  have o159_ : a54_ < 64 + S152_.1.length := by rw [rv_pR_sh g153_]; exact o147_
  have o160_ : a72_ < 64 + S152_.1.length := by rw [rv_pR_sh g153_]; exact o148_
  have o161_ : a92_ < 64 + S152_.1.length := by rw [rv_pR_sh g153_]; exact o149_
  have o162_ : a114_ < 64 + S152_.1.length := by rw [rv_pR_sh g153_]; exact o150_
  have o163_ : a138_ < 64 + S152_.1.length := by rw [rv_pR_sh g153_]; exact o151_
  refine re_pR (pc := 77) g153_ lfX13_35 rfl (Or.inr ⟨rfl, rfl, rfl, (rw7 15 (by decide +kernel) rfl)⟩) (by decide +kernel : decode cX13_init 77 = .ok (.putfield 35, 3)) ?_
  refine re_aloadn (pc := 80) 0 (by decide +kernel : decode cX13_init 80 = .ok (.aload_n 0, 1)) rfl ?_
  refine re_iconst (pc := 81) (5 : Int32) (by decide +kernel : decode cX13_init 81 = .ok (.iconst 5, 1)) (by decide) ?_
  refine re_newa (pc := 82) (t := 0) (N := 5) rfl (rv_alv (List.forall_mem_cons.mpr ⟨o154_, (fun _ z => absurd z List.not_mem_nil)⟩)) ((List.forall_mem_cons.mpr ⟨o154_, (fun _ z => absurd z List.not_mem_nil)⟩)) (by decide) rfl (rw1 137 (by decide +kernel) rfl) (by decide) (by decide) (by decide) (by decide +kernel : decode cX13_init 82 = .ok (.newarray .int, 2)) ?_
  obtain ⟨a164_, g165_, h⟩ := rv_lt_e h
  refine re_nR g165_ ?_
  obtain ⟨S166_, g167_, h⟩ := rv_lt_e h
  refine re_nS g167_ ?_
  have o168_ : a0 < 64 + S166_.1.length := rv_okn g167_ o154_
  have o169_ : a2_ < 64 + S166_.1.length := rv_okn g167_ o155_
  have o170_ : a12_ < 64 + S166_.1.length := rv_okn g167_ o156_
  have o171_ : a24_ < 64 + S166_.1.length := rv_okn g167_ o157_
  have o172_ : a38_ < 64 + S166_.1.length := rv_okn g167_ o158_
  have o173_ : a54_ < 64 + S166_.1.length := rv_okn g167_ o159_
  have o174_ : a72_ < 64 + S166_.1.length := rv_okn g167_ o160_
  have o175_ : a92_ < 64 + S166_.1.length := rv_okn g167_ o161_
  have o176_ : a114_ < 64 + S166_.1.length := rv_okn g167_ o162_
  have o177_ : a138_ < 64 + S166_.1.length := rv_okn g167_ o163_
  have o178_ : a164_ < 64 + S166_.1.length := by rw [← g165_]; exact rv_okn0 g167_
  obtain ⟨S179_, g180_, h⟩ := rv_b_e h
  have o181_ : a0 < 64 + S179_.1.length := by rw [rv_pR_sh g180_]; exact o168_
  have o182_ : a2_ < 64 + S179_.1.length := by rw [rv_pR_sh g180_]; exact o169_
  have o183_ : a12_ < 64 + S179_.1.length := by rw [rv_pR_sh g180_]; exact o170_
  have o184_ : a24_ < 64 + S179_.1.length := by rw [rv_pR_sh g180_]; exact o171_
  have o185_ : a38_ < 64 + S179_.1.length := by rw [rv_pR_sh g180_]; exact o172_
  have o186_ : a54_ < 64 + S179_.1.length := by rw [rv_pR_sh g180_]; exact o173_
  have o187_ : a72_ < 64 + S179_.1.length := by rw [rv_pR_sh g180_]; exact o174_
  have o188_ : a92_ < 64 + S179_.1.length := by rw [rv_pR_sh g180_]; exact o175_
  have o189_ : a114_ < 64 + S179_.1.length := by rw [rv_pR_sh g180_]; exact o176_
  have o190_ : a138_ < 64 + S179_.1.length := by rw [rv_pR_sh g180_]; exact o177_
  have o191_ : a164_ < 64 + S179_.1.length := by rw [rv_pR_sh g180_]; exact o178_
  refine re_pR (pc := 84) g180_ lfX13_39 rfl (Or.inr ⟨rfl, rfl, rfl, (rw7 18 (by decide +kernel) rfl)⟩) (by decide +kernel : decode cX13_init 84 = .ok (.putfield 39, 3)) ?_
  refine re_aloadn (pc := 87) 0 (by decide +kernel : decode cX13_init 87 = .ok (.aload_n 0, 1)) rfl ?_
  refine re_ldc (pc := 88) (v := 410000) (rw6 232 (by decide +kernel) rfl) (by decide +kernel : decode cX13_init 88 = .ok (.ldc 42, 2)) ?_
  refine re_newa (pc := 90) (t := 0) (N := 410000) rfl (rv_alv (List.forall_mem_cons.mpr ⟨o181_, (fun _ z => absurd z List.not_mem_nil)⟩)) ((List.forall_mem_cons.mpr ⟨o181_, (fun _ z => absurd z List.not_mem_nil)⟩)) (by decide) rfl (rw1 137 (by decide +kernel) rfl) (by decide) (by decide) (by decide) (by decide +kernel : decode cX13_init 90 = .ok (.newarray .int, 2)) ?_
  obtain ⟨a192_, g193_, h⟩ := rv_lt_e h
  refine re_nR g193_ ?_
  obtain ⟨S194_, g195_, h⟩ := rv_lt_e h
  refine re_nS g195_ ?_
  have o196_ : a0 < 64 + S194_.1.length := rv_okn g195_ o181_
  have o197_ : a2_ < 64 + S194_.1.length := rv_okn g195_ o182_
  have o198_ : a12_ < 64 + S194_.1.length := rv_okn g195_ o183_
  have o199_ : a24_ < 64 + S194_.1.length := rv_okn g195_ o184_
  have o200_ : a38_ < 64 + S194_.1.length := rv_okn g195_ o185_
  have o201_ : a54_ < 64 + S194_.1.length := rv_okn g195_ o186_
  have o202_ : a72_ < 64 + S194_.1.length := rv_okn g195_ o187_
  have o203_ : a92_ < 64 + S194_.1.length := rv_okn g195_ o188_
  have o204_ : a114_ < 64 + S194_.1.length := rv_okn g195_ o189_
  have o205_ : a138_ < 64 + S194_.1.length := rv_okn g195_ o190_
  have o206_ : a164_ < 64 + S194_.1.length := rv_okn g195_ o191_
  have o207_ : a192_ < 64 + S194_.1.length := by rw [← g193_]; exact rv_okn0 g195_
  obtain ⟨S208_, g209_, h⟩ := rv_b_e h
  have o210_ : a0 < 64 + S208_.1.length := by rw [rv_pR_sh g209_]; exact o196_
  have o211_ : a2_ < 64 + S208_.1.length := by rw [rv_pR_sh g209_]; exact o197_
  have o212_ : a12_ < 64 + S208_.1.length := by rw [rv_pR_sh g209_]; exact o198_
  have o213_ : a24_ < 64 + S208_.1.length := by rw [rv_pR_sh g209_]; exact o199_
  have o214_ : a38_ < 64 + S208_.1.length := by rw [rv_pR_sh g209_]; exact o200_
  have o215_ : a54_ < 64 + S208_.1.length := by rw [rv_pR_sh g209_]; exact o201_
  have o216_ : a72_ < 64 + S208_.1.length := by rw [rv_pR_sh g209_]; exact o202_
  have o217_ : a92_ < 64 + S208_.1.length := by rw [rv_pR_sh g209_]; exact o203_
  have o218_ : a114_ < 64 + S208_.1.length := by rw [rv_pR_sh g209_]; exact o204_
  have o219_ : a138_ < 64 + S208_.1.length := by rw [rv_pR_sh g209_]; exact o205_
  have o220_ : a164_ < 64 + S208_.1.length := by rw [rv_pR_sh g209_]; exact o206_
  have o221_ : a192_ < 64 + S208_.1.length := by rw [rv_pR_sh g209_]; exact o207_
  refine re_pR (pc := 92) g209_ lfX13_43 rfl (Or.inr ⟨rfl, rfl, rfl, (rw7 19 (by decide +kernel) rfl)⟩) (by decide +kernel : decode cX13_init 92 = .ok (.putfield 43, 3)) ?_
  refine re_aloadn (pc := 95) 0 (by decide +kernel : decode cX13_init 95 = .ok (.aload_n 0, 1)) rfl ?_
  refine re_bipush (pc := 96) (40 : Int32) (by decide +kernel : decode cX13_init 96 = .ok (.bipush 40, 2)) (by decide) ?_
  refine re_newa (pc := 98) (t := 0) (N := 40) rfl (rv_alv (List.forall_mem_cons.mpr ⟨o210_, (fun _ z => absurd z List.not_mem_nil)⟩)) ((List.forall_mem_cons.mpr ⟨o210_, (fun _ z => absurd z List.not_mem_nil)⟩)) (by decide) rfl (rw1 137 (by decide +kernel) rfl) (by decide) (by decide) (by decide) (by decide +kernel : decode cX13_init 98 = .ok (.newarray .int, 2)) ?_
  obtain ⟨a222_, g223_, h⟩ := rv_lt_e h
  refine re_nR g223_ ?_
  obtain ⟨S224_, g225_, h⟩ := rv_lt_e h
  refine re_nS g225_ ?_
  have o226_ : a0 < 64 + S224_.1.length := rv_okn g225_ o210_
  have o227_ : a2_ < 64 + S224_.1.length := rv_okn g225_ o211_
  have o228_ : a12_ < 64 + S224_.1.length := rv_okn g225_ o212_
  have o229_ : a24_ < 64 + S224_.1.length := rv_okn g225_ o213_
  have o230_ : a38_ < 64 + S224_.1.length := rv_okn g225_ o214_
  have o231_ : a54_ < 64 + S224_.1.length := rv_okn g225_ o215_
  have o232_ : a72_ < 64 + S224_.1.length := rv_okn g225_ o216_
  have o233_ : a92_ < 64 + S224_.1.length := rv_okn g225_ o217_
  have o234_ : a114_ < 64 + S224_.1.length := rv_okn g225_ o218_
  have o235_ : a138_ < 64 + S224_.1.length := rv_okn g225_ o219_
  have o236_ : a164_ < 64 + S224_.1.length := rv_okn g225_ o220_
  have o237_ : a192_ < 64 + S224_.1.length := rv_okn g225_ o221_
  have o238_ : a222_ < 64 + S224_.1.length := by rw [← g223_]; exact rv_okn0 g225_
  obtain ⟨S239_, g240_, h⟩ := rv_b_e h
  have o241_ : a0 < 64 + S239_.1.length := by rw [rv_pR_sh g240_]; exact o226_
  have o242_ : a2_ < 64 + S239_.1.length := by rw [rv_pR_sh g240_]; exact o227_
  have o243_ : a12_ < 64 + S239_.1.length := by rw [rv_pR_sh g240_]; exact o228_
  have o244_ : a24_ < 64 + S239_.1.length := by rw [rv_pR_sh g240_]; exact o229_
  have o245_ : a38_ < 64 + S239_.1.length := by rw [rv_pR_sh g240_]; exact o230_
  have o246_ : a54_ < 64 + S239_.1.length := by rw [rv_pR_sh g240_]; exact o231_
  have o247_ : a72_ < 64 + S239_.1.length := by rw [rv_pR_sh g240_]; exact o232_
  have o248_ : a92_ < 64 + S239_.1.length := by rw [rv_pR_sh g240_]; exact o233_
  have o249_ : a114_ < 64 + S239_.1.length := by rw [rv_pR_sh g240_]; exact o234_
  have o250_ : a138_ < 64 + S239_.1.length := by rw [rv_pR_sh g240_]; exact o235_
  have o251_ : a164_ < 64 + S239_.1.length := by rw [rv_pR_sh g240_]; exact o236_
  have o252_ : a192_ < 64 + S239_.1.length := by rw [rv_pR_sh g240_]; exact o237_
  have o253_ : a222_ < 64 + S239_.1.length := by rw [rv_pR_sh g240_]; exact o238_
  refine re_pR (pc := 100) g240_ lfX13_46 rfl (Or.inr ⟨rfl, rfl, rfl, (rw7 20 (by decide +kernel) rfl)⟩) (by decide +kernel : decode cX13_init 100 = .ok (.putfield 46, 3)) ?_
  refine re_aloadn (pc := 103) 0 (by decide +kernel : decode cX13_init 103 = .ok (.aload_n 0, 1)) rfl ?_
  refine re_bipush (pc := 104) (40 : Int32) (by decide +kernel : decode cX13_init 104 = .ok (.bipush 40, 2)) (by decide) ?_
  refine re_newa (pc := 106) (t := 0) (N := 40) rfl (rv_alv (List.forall_mem_cons.mpr ⟨o241_, (fun _ z => absurd z List.not_mem_nil)⟩)) ((List.forall_mem_cons.mpr ⟨o241_, (fun _ z => absurd z List.not_mem_nil)⟩)) (by decide) rfl (rw1 137 (by decide +kernel) rfl) (by decide) (by decide) (by decide) (by decide +kernel : decode cX13_init 106 = .ok (.newarray .int, 2)) ?_
  obtain ⟨a254_, g255_, h⟩ := rv_lt_e h
  refine re_nR g255_ ?_
  obtain ⟨S256_, g257_, h⟩ := rv_lt_e h
  refine re_nS g257_ ?_
  have o258_ : a0 < 64 + S256_.1.length := rv_okn g257_ o241_
  have o259_ : a2_ < 64 + S256_.1.length := rv_okn g257_ o242_
  have o260_ : a12_ < 64 + S256_.1.length := rv_okn g257_ o243_
  have o261_ : a24_ < 64 + S256_.1.length := rv_okn g257_ o244_
  have o262_ : a38_ < 64 + S256_.1.length := rv_okn g257_ o245_
  have o263_ : a54_ < 64 + S256_.1.length := rv_okn g257_ o246_
  have o264_ : a72_ < 64 + S256_.1.length := rv_okn g257_ o247_
  have o265_ : a92_ < 64 + S256_.1.length := rv_okn g257_ o248_
  have o266_ : a114_ < 64 + S256_.1.length := rv_okn g257_ o249_
  have o267_ : a138_ < 64 + S256_.1.length := rv_okn g257_ o250_
  have o268_ : a164_ < 64 + S256_.1.length := rv_okn g257_ o251_
  have o269_ : a192_ < 64 + S256_.1.length := rv_okn g257_ o252_
  have o270_ : a222_ < 64 + S256_.1.length := rv_okn g257_ o253_
  have o271_ : a254_ < 64 + S256_.1.length := by rw [← g255_]; exact rv_okn0 g257_
  obtain ⟨S272_, g273_, h⟩ := rv_b_e h
  have o274_ : a0 < 64 + S272_.1.length := by rw [rv_pR_sh g273_]; exact o258_
  have o275_ : a2_ < 64 + S272_.1.length := by rw [rv_pR_sh g273_]; exact o259_
  have o276_ : a12_ < 64 + S272_.1.length := by rw [rv_pR_sh g273_]; exact o260_
  have o277_ : a24_ < 64 + S272_.1.length := by rw [rv_pR_sh g273_]; exact o261_
  have o278_ : a38_ < 64 + S272_.1.length := by rw [rv_pR_sh g273_]; exact o262_
  have o279_ : a54_ < 64 + S272_.1.length := by rw [rv_pR_sh g273_]; exact o263_
  have o280_ : a72_ < 64 + S272_.1.length := by rw [rv_pR_sh g273_]; exact o264_
  have o281_ : a92_ < 64 + S272_.1.length := by rw [rv_pR_sh g273_]; exact o265_
  have o282_ : a114_ < 64 + S272_.1.length := by rw [rv_pR_sh g273_]; exact o266_
  have o283_ : a138_ < 64 + S272_.1.length := by rw [rv_pR_sh g273_]; exact o267_
  have o284_ : a164_ < 64 + S272_.1.length := by rw [rv_pR_sh g273_]; exact o268_
  have o285_ : a192_ < 64 + S272_.1.length := by rw [rv_pR_sh g273_]; exact o269_
  have o286_ : a222_ < 64 + S272_.1.length := by rw [rv_pR_sh g273_]; exact o270_
  have o287_ : a254_ < 64 + S272_.1.length := by rw [rv_pR_sh g273_]; exact o271_
  refine re_pR (pc := 108) g273_ lfX13_49 rfl (Or.inr ⟨rfl, rfl, rfl, (rw7 21 (by decide +kernel) rfl)⟩) (by decide +kernel : decode cX13_init 108 = .ok (.putfield 49, 3)) ?_
  refine re_aloadn (pc := 111) 0 (by decide +kernel : decode cX13_init 111 = .ok (.aload_n 0, 1)) rfl ?_
  refine re_iconst (pc := 112) (-1 : Int32) (by decide +kernel : decode cX13_init 112 = .ok (.iconst (-1), 1)) (by decide) ?_
  obtain ⟨S288_, g289_, h⟩ := rv_b_e h
  have o290_ : a0 < 64 + S288_.1.length := by rw [rv_pI_sh g289_]; exact o274_
  have o291_ : a2_ < 64 + S288_.1.length := by rw [rv_pI_sh g289_]; exact o275_
  have o292_ : a12_ < 64 + S288_.1.length := by rw [rv_pI_sh g289_]; exact o276_
  have o293_ : a24_ < 64 + S288_.1.length := by rw [rv_pI_sh g289_]; exact o277_
  have o294_ : a38_ < 64 + S288_.1.length := by rw [rv_pI_sh g289_]; exact o278_
  have o295_ : a54_ < 64 + S288_.1.length := by rw [rv_pI_sh g289_]; exact o279_
  have o296_ : a72_ < 64 + S288_.1.length := by rw [rv_pI_sh g289_]; exact o280_
  have o297_ : a92_ < 64 + S288_.1.length := by rw [rv_pI_sh g289_]; exact o281_
  have o298_ : a114_ < 64 + S288_.1.length := by rw [rv_pI_sh g289_]; exact o282_
  have o299_ : a138_ < 64 + S288_.1.length := by rw [rv_pI_sh g289_]; exact o283_
  have o300_ : a164_ < 64 + S288_.1.length := by rw [rv_pI_sh g289_]; exact o284_
  have o301_ : a192_ < 64 + S288_.1.length := by rw [rv_pI_sh g289_]; exact o285_
  have o302_ : a222_ < 64 + S288_.1.length := by rw [rv_pI_sh g289_]; exact o286_
  have o303_ : a254_ < 64 + S288_.1.length := by rw [rv_pI_sh g289_]; exact o287_
  refine re_pI (pc := 113) g289_ lfX13_52 rfl rfl rfl rfl (by decide +kernel : decode cX13_init 113 = .ok (.putfield 52, 3)) ?_
  refine re_aloadn (pc := 116) 0 (by decide +kernel : decode cX13_init 116 = .ok (.aload_n 0, 1)) rfl ?_
  refine re_bipush (pc := 117) (100 : Int32) (by decide +kernel : decode cX13_init 117 = .ok (.bipush 100, 2)) (by decide) ?_
  refine re_newa (pc := 119) (t := 3) (N := 100) rfl (rv_alv (List.forall_mem_cons.mpr ⟨o290_, (fun _ z => absurd z List.not_mem_nil)⟩)) ((List.forall_mem_cons.mpr ⟨o290_, (fun _ z => absurd z List.not_mem_nil)⟩)) (by decide) rfl (rw7 175 (by decide +kernel) rfl) (by decide) (by decide) (by decide) (by decide +kernel : decode cX13_init 119 = .ok (.newarray .boolean, 2)) ?_
  obtain ⟨a304_, g305_, h⟩ := rv_lt_e h
  refine re_nR g305_ ?_
  obtain ⟨S306_, g307_, h⟩ := rv_lt_e h
  refine re_nS g307_ ?_
  have o308_ : a0 < 64 + S306_.1.length := rv_okn g307_ o290_
  have o309_ : a2_ < 64 + S306_.1.length := rv_okn g307_ o291_
  have o310_ : a12_ < 64 + S306_.1.length := rv_okn g307_ o292_
  have o311_ : a24_ < 64 + S306_.1.length := rv_okn g307_ o293_
  have o312_ : a38_ < 64 + S306_.1.length := rv_okn g307_ o294_
  have o313_ : a54_ < 64 + S306_.1.length := rv_okn g307_ o295_
  have o314_ : a72_ < 64 + S306_.1.length := rv_okn g307_ o296_
  have o315_ : a92_ < 64 + S306_.1.length := rv_okn g307_ o297_
  have o316_ : a114_ < 64 + S306_.1.length := rv_okn g307_ o298_
  have o317_ : a138_ < 64 + S306_.1.length := rv_okn g307_ o299_
  have o318_ : a164_ < 64 + S306_.1.length := rv_okn g307_ o300_
  have o319_ : a192_ < 64 + S306_.1.length := rv_okn g307_ o301_
  have o320_ : a222_ < 64 + S306_.1.length := rv_okn g307_ o302_
  have o321_ : a254_ < 64 + S306_.1.length := rv_okn g307_ o303_
  have o322_ : a304_ < 64 + S306_.1.length := by rw [← g305_]; exact rv_okn0 g307_
  obtain ⟨S323_, g324_, h⟩ := rv_b_e h
  have o325_ : a0 < 64 + S323_.1.length := by rw [rv_pR_sh g324_]; exact o308_
  have o326_ : a2_ < 64 + S323_.1.length := by rw [rv_pR_sh g324_]; exact o309_
  have o327_ : a12_ < 64 + S323_.1.length := by rw [rv_pR_sh g324_]; exact o310_
  have o328_ : a24_ < 64 + S323_.1.length := by rw [rv_pR_sh g324_]; exact o311_
  have o329_ : a38_ < 64 + S323_.1.length := by rw [rv_pR_sh g324_]; exact o312_
  have o330_ : a54_ < 64 + S323_.1.length := by rw [rv_pR_sh g324_]; exact o313_
  have o331_ : a72_ < 64 + S323_.1.length := by rw [rv_pR_sh g324_]; exact o314_
  have o332_ : a92_ < 64 + S323_.1.length := by rw [rv_pR_sh g324_]; exact o315_
  have o333_ : a114_ < 64 + S323_.1.length := by rw [rv_pR_sh g324_]; exact o316_
  have o334_ : a138_ < 64 + S323_.1.length := by rw [rv_pR_sh g324_]; exact o317_
  have o335_ : a164_ < 64 + S323_.1.length := by rw [rv_pR_sh g324_]; exact o318_
  have o336_ : a192_ < 64 + S323_.1.length := by rw [rv_pR_sh g324_]; exact o319_
  have o337_ : a222_ < 64 + S323_.1.length := by rw [rv_pR_sh g324_]; exact o320_
  have o338_ : a254_ < 64 + S323_.1.length := by rw [rv_pR_sh g324_]; exact o321_
  have o339_ : a304_ < 64 + S323_.1.length := by rw [rv_pR_sh g324_]; exact o322_
  refine re_pR (pc := 121) g324_ lfX13_56 rfl (Or.inr ⟨rfl, rfl, rfl, (rw7 23 (by decide +kernel) rfl)⟩) (by decide +kernel : decode cX13_init 121 = .ok (.putfield 56, 3)) ?_
  refine re_aloadn (pc := 124) 0 (by decide +kernel : decode cX13_init 124 = .ok (.aload_n 0, 1)) rfl ?_
  refine re_bipush (pc := 125) (100 : Int32) (by decide +kernel : decode cX13_init 125 = .ok (.bipush 100, 2)) (by decide) ?_
  refine re_newa (pc := 127) (t := 3) (N := 100) rfl (rv_alv (List.forall_mem_cons.mpr ⟨o325_, (fun _ z => absurd z List.not_mem_nil)⟩)) ((List.forall_mem_cons.mpr ⟨o325_, (fun _ z => absurd z List.not_mem_nil)⟩)) (by decide) rfl (rw7 175 (by decide +kernel) rfl) (by decide) (by decide) (by decide) (by decide +kernel : decode cX13_init 127 = .ok (.newarray .boolean, 2)) ?_
  obtain ⟨a340_, g341_, h⟩ := rv_lt_e h
  refine re_nR g341_ ?_
  obtain ⟨S342_, g343_, h⟩ := rv_lt_e h
  refine re_nS g343_ ?_
  have o344_ : a0 < 64 + S342_.1.length := rv_okn g343_ o325_
  have o345_ : a2_ < 64 + S342_.1.length := rv_okn g343_ o326_
  have o346_ : a12_ < 64 + S342_.1.length := rv_okn g343_ o327_
  have o347_ : a24_ < 64 + S342_.1.length := rv_okn g343_ o328_
  have o348_ : a38_ < 64 + S342_.1.length := rv_okn g343_ o329_
  have o349_ : a54_ < 64 + S342_.1.length := rv_okn g343_ o330_
  have o350_ : a72_ < 64 + S342_.1.length := rv_okn g343_ o331_
  have o351_ : a92_ < 64 + S342_.1.length := rv_okn g343_ o332_
  have o352_ : a114_ < 64 + S342_.1.length := rv_okn g343_ o333_
  have o353_ : a138_ < 64 + S342_.1.length := rv_okn g343_ o334_
  have o354_ : a164_ < 64 + S342_.1.length := rv_okn g343_ o335_
  have o355_ : a192_ < 64 + S342_.1.length := rv_okn g343_ o336_
  have o356_ : a222_ < 64 + S342_.1.length := rv_okn g343_ o337_
  have o357_ : a254_ < 64 + S342_.1.length := rv_okn g343_ o338_
  have o358_ : a304_ < 64 + S342_.1.length := rv_okn g343_ o339_
  have o359_ : a340_ < 64 + S342_.1.length := by rw [← g341_]; exact rv_okn0 g343_
  obtain ⟨S360_, g361_, h⟩ := rv_b_e h
  have o362_ : a0 < 64 + S360_.1.length := by rw [rv_pR_sh g361_]; exact o344_
  have o363_ : a2_ < 64 + S360_.1.length := by rw [rv_pR_sh g361_]; exact o345_
  have o364_ : a12_ < 64 + S360_.1.length := by rw [rv_pR_sh g361_]; exact o346_
  have o365_ : a24_ < 64 + S360_.1.length := by rw [rv_pR_sh g361_]; exact o347_
  have o366_ : a38_ < 64 + S360_.1.length := by rw [rv_pR_sh g361_]; exact o348_
  have o367_ : a54_ < 64 + S360_.1.length := by rw [rv_pR_sh g361_]; exact o349_
  have o368_ : a72_ < 64 + S360_.1.length := by rw [rv_pR_sh g361_]; exact o350_
  have o369_ : a92_ < 64 + S360_.1.length := by rw [rv_pR_sh g361_]; exact o351_
  have o370_ : a114_ < 64 + S360_.1.length := by rw [rv_pR_sh g361_]; exact o352_
  have o371_ : a138_ < 64 + S360_.1.length := by rw [rv_pR_sh g361_]; exact o353_
  have o372_ : a164_ < 64 + S360_.1.length := by rw [rv_pR_sh g361_]; exact o354_
  have o373_ : a192_ < 64 + S360_.1.length := by rw [rv_pR_sh g361_]; exact o355_
  have o374_ : a222_ < 64 + S360_.1.length := by rw [rv_pR_sh g361_]; exact o356_
  have o375_ : a254_ < 64 + S360_.1.length := by rw [rv_pR_sh g361_]; exact o357_
  have o376_ : a304_ < 64 + S360_.1.length := by rw [rv_pR_sh g361_]; exact o358_
  have o377_ : a340_ < 64 + S360_.1.length := by rw [rv_pR_sh g361_]; exact o359_
  refine re_pR (pc := 129) g361_ lfX13_59 rfl (Or.inr ⟨rfl, rfl, rfl, (rw7 24 (by decide +kernel) rfl)⟩) (by decide +kernel : decode cX13_init 129 = .ok (.putfield 59, 3)) ?_
  refine re_aloadn (pc := 132) 0 (by decide +kernel : decode cX13_init 132 = .ok (.aload_n 0, 1)) rfl ?_
  refine re_ldc (pc := 133) (v := 390625) (rw6 233 (by decide +kernel) rfl) (by decide +kernel : decode cX13_init 133 = .ok (.ldc 62, 2)) ?_
  refine re_newa (pc := 135) (t := 0) (N := 390625) rfl (rv_alv (List.forall_mem_cons.mpr ⟨o362_, (fun _ z => absurd z List.not_mem_nil)⟩)) ((List.forall_mem_cons.mpr ⟨o362_, (fun _ z => absurd z List.not_mem_nil)⟩)) (by decide) rfl (rw1 137 (by decide +kernel) rfl) (by decide) (by decide) (by decide) (by decide +kernel : decode cX13_init 135 = .ok (.newarray .int, 2)) ?_
  obtain ⟨a378_, g379_, h⟩ := rv_lt_e h
  refine re_nR g379_ ?_
  obtain ⟨S380_, g381_, h⟩ := rv_lt_e h
  refine re_nS g381_ ?_
  have o382_ : a0 < 64 + S380_.1.length := rv_okn g381_ o362_
  have o383_ : a2_ < 64 + S380_.1.length := rv_okn g381_ o363_
  have o384_ : a12_ < 64 + S380_.1.length := rv_okn g381_ o364_
  have o385_ : a24_ < 64 + S380_.1.length := rv_okn g381_ o365_
  have o386_ : a38_ < 64 + S380_.1.length := rv_okn g381_ o366_
  have o387_ : a54_ < 64 + S380_.1.length := rv_okn g381_ o367_
  have o388_ : a72_ < 64 + S380_.1.length := rv_okn g381_ o368_
  have o389_ : a92_ < 64 + S380_.1.length := rv_okn g381_ o369_
  have o390_ : a114_ < 64 + S380_.1.length := rv_okn g381_ o370_
  have o391_ : a138_ < 64 + S380_.1.length := rv_okn g381_ o371_
  have o392_ : a164_ < 64 + S380_.1.length := rv_okn g381_ o372_
  have o393_ : a192_ < 64 + S380_.1.length := rv_okn g381_ o373_
  have o394_ : a222_ < 64 + S380_.1.length := rv_okn g381_ o374_
  have o395_ : a254_ < 64 + S380_.1.length := rv_okn g381_ o375_
  have o396_ : a304_ < 64 + S380_.1.length := rv_okn g381_ o376_
  have o397_ : a340_ < 64 + S380_.1.length := rv_okn g381_ o377_
  have o398_ : a378_ < 64 + S380_.1.length := by rw [← g379_]; exact rv_okn0 g381_
  obtain ⟨S399_, g400_, h⟩ := rv_b_e h
  have o401_ : a0 < 64 + S399_.1.length := by rw [rv_pR_sh g400_]; exact o382_
  have o402_ : a2_ < 64 + S399_.1.length := by rw [rv_pR_sh g400_]; exact o383_
  have o403_ : a12_ < 64 + S399_.1.length := by rw [rv_pR_sh g400_]; exact o384_
  have o404_ : a24_ < 64 + S399_.1.length := by rw [rv_pR_sh g400_]; exact o385_
  have o405_ : a38_ < 64 + S399_.1.length := by rw [rv_pR_sh g400_]; exact o386_
  have o406_ : a54_ < 64 + S399_.1.length := by rw [rv_pR_sh g400_]; exact o387_
  have o407_ : a72_ < 64 + S399_.1.length := by rw [rv_pR_sh g400_]; exact o388_
  have o408_ : a92_ < 64 + S399_.1.length := by rw [rv_pR_sh g400_]; exact o389_
  have o409_ : a114_ < 64 + S399_.1.length := by rw [rv_pR_sh g400_]; exact o390_
  have o410_ : a138_ < 64 + S399_.1.length := by rw [rv_pR_sh g400_]; exact o391_
  have o411_ : a164_ < 64 + S399_.1.length := by rw [rv_pR_sh g400_]; exact o392_
  have o412_ : a192_ < 64 + S399_.1.length := by rw [rv_pR_sh g400_]; exact o393_
  have o413_ : a222_ < 64 + S399_.1.length := by rw [rv_pR_sh g400_]; exact o394_
  have o414_ : a254_ < 64 + S399_.1.length := by rw [rv_pR_sh g400_]; exact o395_
  have o415_ : a304_ < 64 + S399_.1.length := by rw [rv_pR_sh g400_]; exact o396_
  have o416_ : a340_ < 64 + S399_.1.length := by rw [rv_pR_sh g400_]; exact o397_
  have o417_ : a378_ < 64 + S399_.1.length := by rw [rv_pR_sh g400_]; exact o398_
  refine re_pR (pc := 137) g400_ lfX13_63 rfl (Or.inr ⟨rfl, rfl, rfl, (rw7 25 (by decide +kernel) rfl)⟩) (by decide +kernel : decode cX13_init 137 = .ok (.putfield 63, 3)) ?_
  refine re_aloadn (pc := 140) 0 (by decide +kernel : decode cX13_init 140 = .ok (.aload_n 0, 1)) rfl ?_
  refine re_ldc (pc := 141) (v := 390625) (rw6 233 (by decide +kernel) rfl) (by decide +kernel : decode cX13_init 141 = .ok (.ldc 62, 2)) ?_
  refine re_newa (pc := 143) (t := 0) (N := 390625) rfl (rv_alv (List.forall_mem_cons.mpr ⟨o401_, (fun _ z => absurd z List.not_mem_nil)⟩)) ((List.forall_mem_cons.mpr ⟨o401_, (fun _ z => absurd z List.not_mem_nil)⟩)) (by decide) rfl (rw1 137 (by decide +kernel) rfl) (by decide) (by decide) (by decide) (by decide +kernel : decode cX13_init 143 = .ok (.newarray .int, 2)) ?_
  obtain ⟨a418_, g419_, h⟩ := rv_lt_e h
  refine re_nR g419_ ?_
  obtain ⟨S420_, g421_, h⟩ := rv_lt_e h
  refine re_nS g421_ ?_
  have o422_ : a0 < 64 + S420_.1.length := rv_okn g421_ o401_
  have o423_ : a2_ < 64 + S420_.1.length := rv_okn g421_ o402_
  have o424_ : a12_ < 64 + S420_.1.length := rv_okn g421_ o403_
  have o425_ : a24_ < 64 + S420_.1.length := rv_okn g421_ o404_
  have o426_ : a38_ < 64 + S420_.1.length := rv_okn g421_ o405_
  have o427_ : a54_ < 64 + S420_.1.length := rv_okn g421_ o406_
  have o428_ : a72_ < 64 + S420_.1.length := rv_okn g421_ o407_
  have o429_ : a92_ < 64 + S420_.1.length := rv_okn g421_ o408_
  have o430_ : a114_ < 64 + S420_.1.length := rv_okn g421_ o409_
  have o431_ : a138_ < 64 + S420_.1.length := rv_okn g421_ o410_
  have o432_ : a164_ < 64 + S420_.1.length := rv_okn g421_ o411_
  have o433_ : a192_ < 64 + S420_.1.length := rv_okn g421_ o412_
  have o434_ : a222_ < 64 + S420_.1.length := rv_okn g421_ o413_
  have o435_ : a254_ < 64 + S420_.1.length := rv_okn g421_ o414_
  have o436_ : a304_ < 64 + S420_.1.length := rv_okn g421_ o415_
  have o437_ : a340_ < 64 + S420_.1.length := rv_okn g421_ o416_
  have o438_ : a378_ < 64 + S420_.1.length := rv_okn g421_ o417_
  have o439_ : a418_ < 64 + S420_.1.length := by rw [← g419_]; exact rv_okn0 g421_
  obtain ⟨S440_, g441_, h⟩ := rv_b_e h
  have o442_ : a0 < 64 + S440_.1.length := by rw [rv_pR_sh g441_]; exact o422_
  have o443_ : a2_ < 64 + S440_.1.length := by rw [rv_pR_sh g441_]; exact o423_
  have o444_ : a12_ < 64 + S440_.1.length := by rw [rv_pR_sh g441_]; exact o424_
  have o445_ : a24_ < 64 + S440_.1.length := by rw [rv_pR_sh g441_]; exact o425_
  have o446_ : a38_ < 64 + S440_.1.length := by rw [rv_pR_sh g441_]; exact o426_
  have o447_ : a54_ < 64 + S440_.1.length := by rw [rv_pR_sh g441_]; exact o427_
  have o448_ : a72_ < 64 + S440_.1.length := by rw [rv_pR_sh g441_]; exact o428_
  have o449_ : a92_ < 64 + S440_.1.length := by rw [rv_pR_sh g441_]; exact o429_
  have o450_ : a114_ < 64 + S440_.1.length := by rw [rv_pR_sh g441_]; exact o430_
  have o451_ : a138_ < 64 + S440_.1.length := by rw [rv_pR_sh g441_]; exact o431_
  have o452_ : a164_ < 64 + S440_.1.length := by rw [rv_pR_sh g441_]; exact o432_
  have o453_ : a192_ < 64 + S440_.1.length := by rw [rv_pR_sh g441_]; exact o433_
  have o454_ : a222_ < 64 + S440_.1.length := by rw [rv_pR_sh g441_]; exact o434_
  have o455_ : a254_ < 64 + S440_.1.length := by rw [rv_pR_sh g441_]; exact o435_
  have o456_ : a304_ < 64 + S440_.1.length := by rw [rv_pR_sh g441_]; exact o436_
  have o457_ : a340_ < 64 + S440_.1.length := by rw [rv_pR_sh g441_]; exact o437_
  have o458_ : a378_ < 64 + S440_.1.length := by rw [rv_pR_sh g441_]; exact o438_
  have o459_ : a418_ < 64 + S440_.1.length := by rw [rv_pR_sh g441_]; exact o439_
  refine re_pR (pc := 145) g441_ lfX13_66 rfl (Or.inr ⟨rfl, rfl, rfl, (rw7 26 (by decide +kernel) rfl)⟩) (by decide +kernel : decode cX13_init 145 = .ok (.putfield 66, 3)) ?_
  refine re_aloadn (pc := 148) 0 (by decide +kernel : decode cX13_init 148 = .ok (.aload_n 0, 1)) rfl ?_
  refine re_ldc (pc := 149) (v := 390625) (rw6 233 (by decide +kernel) rfl) (by decide +kernel : decode cX13_init 149 = .ok (.ldc 62, 2)) ?_
  refine re_newa (pc := 151) (t := 0) (N := 390625) rfl (rv_alv (List.forall_mem_cons.mpr ⟨o442_, (fun _ z => absurd z List.not_mem_nil)⟩)) ((List.forall_mem_cons.mpr ⟨o442_, (fun _ z => absurd z List.not_mem_nil)⟩)) (by decide) rfl (rw1 137 (by decide +kernel) rfl) (by decide) (by decide) (by decide) (by decide +kernel : decode cX13_init 151 = .ok (.newarray .int, 2)) ?_
  obtain ⟨a460_, g461_, h⟩ := rv_lt_e h
  refine re_nR g461_ ?_
  obtain ⟨S462_, g463_, h⟩ := rv_lt_e h
  refine re_nS g463_ ?_
  have o464_ : a0 < 64 + S462_.1.length := rv_okn g463_ o442_
  have o465_ : a2_ < 64 + S462_.1.length := rv_okn g463_ o443_
  have o466_ : a12_ < 64 + S462_.1.length := rv_okn g463_ o444_
  have o467_ : a24_ < 64 + S462_.1.length := rv_okn g463_ o445_
  have o468_ : a38_ < 64 + S462_.1.length := rv_okn g463_ o446_
  have o469_ : a54_ < 64 + S462_.1.length := rv_okn g463_ o447_
  have o470_ : a72_ < 64 + S462_.1.length := rv_okn g463_ o448_
  have o471_ : a92_ < 64 + S462_.1.length := rv_okn g463_ o449_
  have o472_ : a114_ < 64 + S462_.1.length := rv_okn g463_ o450_
  have o473_ : a138_ < 64 + S462_.1.length := rv_okn g463_ o451_
  have o474_ : a164_ < 64 + S462_.1.length := rv_okn g463_ o452_
  have o475_ : a192_ < 64 + S462_.1.length := rv_okn g463_ o453_
  have o476_ : a222_ < 64 + S462_.1.length := rv_okn g463_ o454_
  have o477_ : a254_ < 64 + S462_.1.length := rv_okn g463_ o455_
  have o478_ : a304_ < 64 + S462_.1.length := rv_okn g463_ o456_
  have o479_ : a340_ < 64 + S462_.1.length := rv_okn g463_ o457_
  have o480_ : a378_ < 64 + S462_.1.length := rv_okn g463_ o458_
  have o481_ : a418_ < 64 + S462_.1.length := rv_okn g463_ o459_
  have o482_ : a460_ < 64 + S462_.1.length := by rw [← g461_]; exact rv_okn0 g463_
  obtain ⟨S483_, g484_, h⟩ := rv_b_e h
  have o485_ : a0 < 64 + S483_.1.length := by rw [rv_pR_sh g484_]; exact o464_
  have o486_ : a2_ < 64 + S483_.1.length := by rw [rv_pR_sh g484_]; exact o465_
  have o487_ : a12_ < 64 + S483_.1.length := by rw [rv_pR_sh g484_]; exact o466_
  have o488_ : a24_ < 64 + S483_.1.length := by rw [rv_pR_sh g484_]; exact o467_
  have o489_ : a38_ < 64 + S483_.1.length := by rw [rv_pR_sh g484_]; exact o468_
  have o490_ : a54_ < 64 + S483_.1.length := by rw [rv_pR_sh g484_]; exact o469_
  have o491_ : a72_ < 64 + S483_.1.length := by rw [rv_pR_sh g484_]; exact o470_
  have o492_ : a92_ < 64 + S483_.1.length := by rw [rv_pR_sh g484_]; exact o471_
  have o493_ : a114_ < 64 + S483_.1.length := by rw [rv_pR_sh g484_]; exact o472_
  have o494_ : a138_ < 64 + S483_.1.length := by rw [rv_pR_sh g484_]; exact o473_
  have o495_ : a164_ < 64 + S483_.1.length := by rw [rv_pR_sh g484_]; exact o474_
  have o496_ : a192_ < 64 + S483_.1.length := by rw [rv_pR_sh g484_]; exact o475_
  have o497_ : a222_ < 64 + S483_.1.length := by rw [rv_pR_sh g484_]; exact o476_
  have o498_ : a254_ < 64 + S483_.1.length := by rw [rv_pR_sh g484_]; exact o477_
  have o499_ : a304_ < 64 + S483_.1.length := by rw [rv_pR_sh g484_]; exact o478_
  have o500_ : a340_ < 64 + S483_.1.length := by rw [rv_pR_sh g484_]; exact o479_
  have o501_ : a378_ < 64 + S483_.1.length := by rw [rv_pR_sh g484_]; exact o480_
  have o502_ : a418_ < 64 + S483_.1.length := by rw [rv_pR_sh g484_]; exact o481_
  have o503_ : a460_ < 64 + S483_.1.length := by rw [rv_pR_sh g484_]; exact o482_
  refine re_pR (pc := 153) g484_ lfX13_69 rfl (Or.inr ⟨rfl, rfl, rfl, (rw7 27 (by decide +kernel) rfl)⟩) (by decide +kernel : decode cX13_init 153 = .ok (.putfield 69, 3)) ?_
  refine re_aloadn (pc := 156) 0 (by decide +kernel : decode cX13_init 156 = .ok (.aload_n 0, 1)) rfl ?_
  refine re_sipush (pc := 157) (2000 : Int32) (by decide +kernel : decode cX13_init 157 = .ok (.sipush 2000, 3)) (by decide) ?_
  refine re_newa (pc := 160) (t := 0) (N := 2000) rfl (rv_alv (List.forall_mem_cons.mpr ⟨o485_, (fun _ z => absurd z List.not_mem_nil)⟩)) ((List.forall_mem_cons.mpr ⟨o485_, (fun _ z => absurd z List.not_mem_nil)⟩)) (by decide) rfl (rw1 137 (by decide +kernel) rfl) (by decide) (by decide) (by decide) (by decide +kernel : decode cX13_init 160 = .ok (.newarray .int, 2)) ?_
  obtain ⟨a504_, g505_, h⟩ := rv_lt_e h
  refine re_nR g505_ ?_
  obtain ⟨S506_, g507_, h⟩ := rv_lt_e h
  refine re_nS g507_ ?_
  have o508_ : a0 < 64 + S506_.1.length := rv_okn g507_ o485_
  have o509_ : a2_ < 64 + S506_.1.length := rv_okn g507_ o486_
  have o510_ : a12_ < 64 + S506_.1.length := rv_okn g507_ o487_
  have o511_ : a24_ < 64 + S506_.1.length := rv_okn g507_ o488_
  have o512_ : a38_ < 64 + S506_.1.length := rv_okn g507_ o489_
  have o513_ : a54_ < 64 + S506_.1.length := rv_okn g507_ o490_
  have o514_ : a72_ < 64 + S506_.1.length := rv_okn g507_ o491_
  have o515_ : a92_ < 64 + S506_.1.length := rv_okn g507_ o492_
  have o516_ : a114_ < 64 + S506_.1.length := rv_okn g507_ o493_
  have o517_ : a138_ < 64 + S506_.1.length := rv_okn g507_ o494_
  have o518_ : a164_ < 64 + S506_.1.length := rv_okn g507_ o495_
  have o519_ : a192_ < 64 + S506_.1.length := rv_okn g507_ o496_
  have o520_ : a222_ < 64 + S506_.1.length := rv_okn g507_ o497_
  have o521_ : a254_ < 64 + S506_.1.length := rv_okn g507_ o498_
  have o522_ : a304_ < 64 + S506_.1.length := rv_okn g507_ o499_
  have o523_ : a340_ < 64 + S506_.1.length := rv_okn g507_ o500_
  have o524_ : a378_ < 64 + S506_.1.length := rv_okn g507_ o501_
  have o525_ : a418_ < 64 + S506_.1.length := rv_okn g507_ o502_
  have o526_ : a460_ < 64 + S506_.1.length := rv_okn g507_ o503_
  have o527_ : a504_ < 64 + S506_.1.length := by rw [← g505_]; exact rv_okn0 g507_
  obtain ⟨S528_, g529_, h⟩ := rv_b_e h
  have o530_ : a0 < 64 + S528_.1.length := by rw [rv_pR_sh g529_]; exact o508_
  have o531_ : a2_ < 64 + S528_.1.length := by rw [rv_pR_sh g529_]; exact o509_
  have o532_ : a12_ < 64 + S528_.1.length := by rw [rv_pR_sh g529_]; exact o510_
  have o533_ : a24_ < 64 + S528_.1.length := by rw [rv_pR_sh g529_]; exact o511_
  have o534_ : a38_ < 64 + S528_.1.length := by rw [rv_pR_sh g529_]; exact o512_
  have o535_ : a54_ < 64 + S528_.1.length := by rw [rv_pR_sh g529_]; exact o513_
  have o536_ : a72_ < 64 + S528_.1.length := by rw [rv_pR_sh g529_]; exact o514_
  have o537_ : a92_ < 64 + S528_.1.length := by rw [rv_pR_sh g529_]; exact o515_
  have o538_ : a114_ < 64 + S528_.1.length := by rw [rv_pR_sh g529_]; exact o516_
  have o539_ : a138_ < 64 + S528_.1.length := by rw [rv_pR_sh g529_]; exact o517_
  have o540_ : a164_ < 64 + S528_.1.length := by rw [rv_pR_sh g529_]; exact o518_
  have o541_ : a192_ < 64 + S528_.1.length := by rw [rv_pR_sh g529_]; exact o519_
  have o542_ : a222_ < 64 + S528_.1.length := by rw [rv_pR_sh g529_]; exact o520_
  have o543_ : a254_ < 64 + S528_.1.length := by rw [rv_pR_sh g529_]; exact o521_
  have o544_ : a304_ < 64 + S528_.1.length := by rw [rv_pR_sh g529_]; exact o522_
  have o545_ : a340_ < 64 + S528_.1.length := by rw [rv_pR_sh g529_]; exact o523_
  have o546_ : a378_ < 64 + S528_.1.length := by rw [rv_pR_sh g529_]; exact o524_
  have o547_ : a418_ < 64 + S528_.1.length := by rw [rv_pR_sh g529_]; exact o525_
  have o548_ : a460_ < 64 + S528_.1.length := by rw [rv_pR_sh g529_]; exact o526_
  have o549_ : a504_ < 64 + S528_.1.length := by rw [rv_pR_sh g529_]; exact o527_
  refine re_pR (pc := 162) g529_ lfX13_72 rfl (Or.inr ⟨rfl, rfl, rfl, (rw7 28 (by decide +kernel) rfl)⟩) (by decide +kernel : decode cX13_init 162 = .ok (.putfield 72, 3)) ?_
  refine re_aloadn (pc := 165) 0 (by decide +kernel : decode cX13_init 165 = .ok (.aload_n 0, 1)) rfl ?_
  refine re_iconst (pc := 166) (5 : Int32) (by decide +kernel : decode cX13_init 166 = .ok (.iconst 5, 1)) (by decide) ?_
  refine re_newa (pc := 167) (t := 0) (N := 5) rfl (rv_alv (List.forall_mem_cons.mpr ⟨o530_, (fun _ z => absurd z List.not_mem_nil)⟩)) ((List.forall_mem_cons.mpr ⟨o530_, (fun _ z => absurd z List.not_mem_nil)⟩)) (by decide) rfl (rw1 137 (by decide +kernel) rfl) (by decide) (by decide) (by decide) (by decide +kernel : decode cX13_init 167 = .ok (.newarray .int, 2)) ?_
  obtain ⟨a550_, g551_, h⟩ := rv_lt_e h
  refine re_nR g551_ ?_
  obtain ⟨S552_, g553_, h⟩ := rv_lt_e h
  refine re_nS g553_ ?_
  have o554_ : a0 < 64 + S552_.1.length := rv_okn g553_ o530_
  have o555_ : a2_ < 64 + S552_.1.length := rv_okn g553_ o531_
  have o556_ : a12_ < 64 + S552_.1.length := rv_okn g553_ o532_
  have o557_ : a24_ < 64 + S552_.1.length := rv_okn g553_ o533_
  have o558_ : a38_ < 64 + S552_.1.length := rv_okn g553_ o534_
  have o559_ : a54_ < 64 + S552_.1.length := rv_okn g553_ o535_
  have o560_ : a72_ < 64 + S552_.1.length := rv_okn g553_ o536_
  have o561_ : a92_ < 64 + S552_.1.length := rv_okn g553_ o537_
  have o562_ : a114_ < 64 + S552_.1.length := rv_okn g553_ o538_
  have o563_ : a138_ < 64 + S552_.1.length := rv_okn g553_ o539_
  have o564_ : a164_ < 64 + S552_.1.length := rv_okn g553_ o540_
  have o565_ : a192_ < 64 + S552_.1.length := rv_okn g553_ o541_
  have o566_ : a222_ < 64 + S552_.1.length := rv_okn g553_ o542_
  have o567_ : a254_ < 64 + S552_.1.length := rv_okn g553_ o543_
  have o568_ : a304_ < 64 + S552_.1.length := rv_okn g553_ o544_
  have o569_ : a340_ < 64 + S552_.1.length := rv_okn g553_ o545_
  have o570_ : a378_ < 64 + S552_.1.length := rv_okn g553_ o546_
  have o571_ : a418_ < 64 + S552_.1.length := rv_okn g553_ o547_
  have o572_ : a460_ < 64 + S552_.1.length := rv_okn g553_ o548_
  have o573_ : a504_ < 64 + S552_.1.length := rv_okn g553_ o549_
  have o574_ : a550_ < 64 + S552_.1.length := by rw [← g551_]; exact rv_okn0 g553_
  obtain ⟨S575_, g576_, h⟩ := rv_b_e h
  have o577_ : a0 < 64 + S575_.1.length := by rw [rv_pR_sh g576_]; exact o554_
  have o578_ : a2_ < 64 + S575_.1.length := by rw [rv_pR_sh g576_]; exact o555_
  have o579_ : a12_ < 64 + S575_.1.length := by rw [rv_pR_sh g576_]; exact o556_
  have o580_ : a24_ < 64 + S575_.1.length := by rw [rv_pR_sh g576_]; exact o557_
  have o581_ : a38_ < 64 + S575_.1.length := by rw [rv_pR_sh g576_]; exact o558_
  have o582_ : a54_ < 64 + S575_.1.length := by rw [rv_pR_sh g576_]; exact o559_
  have o583_ : a72_ < 64 + S575_.1.length := by rw [rv_pR_sh g576_]; exact o560_
  have o584_ : a92_ < 64 + S575_.1.length := by rw [rv_pR_sh g576_]; exact o561_
  have o585_ : a114_ < 64 + S575_.1.length := by rw [rv_pR_sh g576_]; exact o562_
  have o586_ : a138_ < 64 + S575_.1.length := by rw [rv_pR_sh g576_]; exact o563_
  have o587_ : a164_ < 64 + S575_.1.length := by rw [rv_pR_sh g576_]; exact o564_
  have o588_ : a192_ < 64 + S575_.1.length := by rw [rv_pR_sh g576_]; exact o565_
  have o589_ : a222_ < 64 + S575_.1.length := by rw [rv_pR_sh g576_]; exact o566_
  have o590_ : a254_ < 64 + S575_.1.length := by rw [rv_pR_sh g576_]; exact o567_
  have o591_ : a304_ < 64 + S575_.1.length := by rw [rv_pR_sh g576_]; exact o568_
  have o592_ : a340_ < 64 + S575_.1.length := by rw [rv_pR_sh g576_]; exact o569_
  have o593_ : a378_ < 64 + S575_.1.length := by rw [rv_pR_sh g576_]; exact o570_
  have o594_ : a418_ < 64 + S575_.1.length := by rw [rv_pR_sh g576_]; exact o571_
  have o595_ : a460_ < 64 + S575_.1.length := by rw [rv_pR_sh g576_]; exact o572_
  have o596_ : a504_ < 64 + S575_.1.length := by rw [rv_pR_sh g576_]; exact o573_
  have o597_ : a550_ < 64 + S575_.1.length := by rw [rv_pR_sh g576_]; exact o574_
  refine re_pR (pc := 169) g576_ lfX13_75 rfl (Or.inr ⟨rfl, rfl, rfl, (rw7 32 (by decide +kernel) rfl)⟩) (by decide +kernel : decode cX13_init 169 = .ok (.putfield 75, 3)) ?_
  refine re_aloadn (pc := 172) 0 (by decide +kernel : decode cX13_init 172 = .ok (.aload_n 0, 1)) rfl ?_
  refine re_iconst (pc := 173) (5 : Int32) (by decide +kernel : decode cX13_init 173 = .ok (.iconst 5, 1)) (by decide) ?_
  refine re_newa (pc := 174) (t := 0) (N := 5) rfl (rv_alv (List.forall_mem_cons.mpr ⟨o577_, (fun _ z => absurd z List.not_mem_nil)⟩)) ((List.forall_mem_cons.mpr ⟨o577_, (fun _ z => absurd z List.not_mem_nil)⟩)) (by decide) rfl (rw1 137 (by decide +kernel) rfl) (by decide) (by decide) (by decide) (by decide +kernel : decode cX13_init 174 = .ok (.newarray .int, 2)) ?_
  obtain ⟨a598_, g599_, h⟩ := rv_lt_e h
  refine re_nR g599_ ?_
  obtain ⟨S600_, g601_, h⟩ := rv_lt_e h
  refine re_nS g601_ ?_
  have o602_ : a0 < 64 + S600_.1.length := rv_okn g601_ o577_
  have o603_ : a2_ < 64 + S600_.1.length := rv_okn g601_ o578_
  have o604_ : a12_ < 64 + S600_.1.length := rv_okn g601_ o579_
  have o605_ : a24_ < 64 + S600_.1.length := rv_okn g601_ o580_
  have o606_ : a38_ < 64 + S600_.1.length := rv_okn g601_ o581_
  have o607_ : a54_ < 64 + S600_.1.length := rv_okn g601_ o582_
  have o608_ : a72_ < 64 + S600_.1.length := rv_okn g601_ o583_
  have o609_ : a92_ < 64 + S600_.1.length := rv_okn g601_ o584_
  have o610_ : a114_ < 64 + S600_.1.length := rv_okn g601_ o585_
  have o611_ : a138_ < 64 + S600_.1.length := rv_okn g601_ o586_
  have o612_ : a164_ < 64 + S600_.1.length := rv_okn g601_ o587_
  have o613_ : a192_ < 64 + S600_.1.length := rv_okn g601_ o588_
  have o614_ : a222_ < 64 + S600_.1.length := rv_okn g601_ o589_
  have o615_ : a254_ < 64 + S600_.1.length := rv_okn g601_ o590_
  have o616_ : a304_ < 64 + S600_.1.length := rv_okn g601_ o591_
  have o617_ : a340_ < 64 + S600_.1.length := rv_okn g601_ o592_
  have o618_ : a378_ < 64 + S600_.1.length := rv_okn g601_ o593_
  have o619_ : a418_ < 64 + S600_.1.length := rv_okn g601_ o594_
  have o620_ : a460_ < 64 + S600_.1.length := rv_okn g601_ o595_
  have o621_ : a504_ < 64 + S600_.1.length := rv_okn g601_ o596_
  have o622_ : a550_ < 64 + S600_.1.length := rv_okn g601_ o597_
  have o623_ : a598_ < 64 + S600_.1.length := by rw [← g599_]; exact rv_okn0 g601_
  obtain ⟨S624_, g625_, h⟩ := rv_b_e h
  have o626_ : a0 < 64 + S624_.1.length := by rw [rv_pR_sh g625_]; exact o602_
  have o627_ : a2_ < 64 + S624_.1.length := by rw [rv_pR_sh g625_]; exact o603_
  have o628_ : a12_ < 64 + S624_.1.length := by rw [rv_pR_sh g625_]; exact o604_
  have o629_ : a24_ < 64 + S624_.1.length := by rw [rv_pR_sh g625_]; exact o605_
  have o630_ : a38_ < 64 + S624_.1.length := by rw [rv_pR_sh g625_]; exact o606_
  have o631_ : a54_ < 64 + S624_.1.length := by rw [rv_pR_sh g625_]; exact o607_
  have o632_ : a72_ < 64 + S624_.1.length := by rw [rv_pR_sh g625_]; exact o608_
  have o633_ : a92_ < 64 + S624_.1.length := by rw [rv_pR_sh g625_]; exact o609_
  have o634_ : a114_ < 64 + S624_.1.length := by rw [rv_pR_sh g625_]; exact o610_
  have o635_ : a138_ < 64 + S624_.1.length := by rw [rv_pR_sh g625_]; exact o611_
  have o636_ : a164_ < 64 + S624_.1.length := by rw [rv_pR_sh g625_]; exact o612_
  have o637_ : a192_ < 64 + S624_.1.length := by rw [rv_pR_sh g625_]; exact o613_
  have o638_ : a222_ < 64 + S624_.1.length := by rw [rv_pR_sh g625_]; exact o614_
  have o639_ : a254_ < 64 + S624_.1.length := by rw [rv_pR_sh g625_]; exact o615_
  have o640_ : a304_ < 64 + S624_.1.length := by rw [rv_pR_sh g625_]; exact o616_
  have o641_ : a340_ < 64 + S624_.1.length := by rw [rv_pR_sh g625_]; exact o617_
  have o642_ : a378_ < 64 + S624_.1.length := by rw [rv_pR_sh g625_]; exact o618_
  have o643_ : a418_ < 64 + S624_.1.length := by rw [rv_pR_sh g625_]; exact o619_
  have o644_ : a460_ < 64 + S624_.1.length := by rw [rv_pR_sh g625_]; exact o620_
  have o645_ : a504_ < 64 + S624_.1.length := by rw [rv_pR_sh g625_]; exact o621_
  have o646_ : a550_ < 64 + S624_.1.length := by rw [rv_pR_sh g625_]; exact o622_
  have o647_ : a598_ < 64 + S624_.1.length := by rw [rv_pR_sh g625_]; exact o623_
  refine re_pR (pc := 176) g625_ lfX13_78 rfl (Or.inr ⟨rfl, rfl, rfl, (rw7 33 (by decide +kernel) rfl)⟩) (by decide +kernel : decode cX13_init 176 = .ok (.putfield 78, 3)) ?_
  refine re_aloadn (pc := 179) 0 (by decide +kernel : decode cX13_init 179 = .ok (.aload_n 0, 1)) rfl ?_
  refine re_iconst (pc := 180) (5 : Int32) (by decide +kernel : decode cX13_init 180 = .ok (.iconst 5, 1)) (by decide) ?_
  refine re_newa (pc := 181) (t := 0) (N := 5) rfl (rv_alv (List.forall_mem_cons.mpr ⟨o626_, (fun _ z => absurd z List.not_mem_nil)⟩)) ((List.forall_mem_cons.mpr ⟨o626_, (fun _ z => absurd z List.not_mem_nil)⟩)) (by decide) rfl (rw1 137 (by decide +kernel) rfl) (by decide) (by decide) (by decide) (by decide +kernel : decode cX13_init 181 = .ok (.newarray .int, 2)) ?_
  obtain ⟨a648_, g649_, h⟩ := rv_lt_e h
  refine re_nR g649_ ?_
  obtain ⟨S650_, g651_, h⟩ := rv_lt_e h
  refine re_nS g651_ ?_
  have o652_ : a0 < 64 + S650_.1.length := rv_okn g651_ o626_
  have o653_ : a2_ < 64 + S650_.1.length := rv_okn g651_ o627_
  have o654_ : a12_ < 64 + S650_.1.length := rv_okn g651_ o628_
  have o655_ : a24_ < 64 + S650_.1.length := rv_okn g651_ o629_
  have o656_ : a38_ < 64 + S650_.1.length := rv_okn g651_ o630_
  have o657_ : a54_ < 64 + S650_.1.length := rv_okn g651_ o631_
  have o658_ : a72_ < 64 + S650_.1.length := rv_okn g651_ o632_
  have o659_ : a92_ < 64 + S650_.1.length := rv_okn g651_ o633_
  have o660_ : a114_ < 64 + S650_.1.length := rv_okn g651_ o634_
  have o661_ : a138_ < 64 + S650_.1.length := rv_okn g651_ o635_
  have o662_ : a164_ < 64 + S650_.1.length := rv_okn g651_ o636_
  have o663_ : a192_ < 64 + S650_.1.length := rv_okn g651_ o637_
  have o664_ : a222_ < 64 + S650_.1.length := rv_okn g651_ o638_
  have o665_ : a254_ < 64 + S650_.1.length := rv_okn g651_ o639_
  have o666_ : a304_ < 64 + S650_.1.length := rv_okn g651_ o640_
  have o667_ : a340_ < 64 + S650_.1.length := rv_okn g651_ o641_
  have o668_ : a378_ < 64 + S650_.1.length := rv_okn g651_ o642_
  have o669_ : a418_ < 64 + S650_.1.length := rv_okn g651_ o643_
  have o670_ : a460_ < 64 + S650_.1.length := rv_okn g651_ o644_
  have o671_ : a504_ < 64 + S650_.1.length := rv_okn g651_ o645_
  have o672_ : a550_ < 64 + S650_.1.length := rv_okn g651_ o646_
  have o673_ : a598_ < 64 + S650_.1.length := rv_okn g651_ o647_
  have o674_ : a648_ < 64 + S650_.1.length := by rw [← g649_]; exact rv_okn0 g651_
  obtain ⟨S675_, g676_, h⟩ := rv_b_e h
  have o677_ : a0 < 64 + S675_.1.length := by rw [rv_pR_sh g676_]; exact o652_
  have o678_ : a2_ < 64 + S675_.1.length := by rw [rv_pR_sh g676_]; exact o653_
  have o679_ : a12_ < 64 + S675_.1.length := by rw [rv_pR_sh g676_]; exact o654_
  have o680_ : a24_ < 64 + S675_.1.length := by rw [rv_pR_sh g676_]; exact o655_
  have o681_ : a38_ < 64 + S675_.1.length := by rw [rv_pR_sh g676_]; exact o656_
  have o682_ : a54_ < 64 + S675_.1.length := by rw [rv_pR_sh g676_]; exact o657_
  have o683_ : a72_ < 64 + S675_.1.length := by rw [rv_pR_sh g676_]; exact o658_
  have o684_ : a92_ < 64 + S675_.1.length := by rw [rv_pR_sh g676_]; exact o659_
  have o685_ : a114_ < 64 + S675_.1.length := by rw [rv_pR_sh g676_]; exact o660_
  have o686_ : a138_ < 64 + S675_.1.length := by rw [rv_pR_sh g676_]; exact o661_
  have o687_ : a164_ < 64 + S675_.1.length := by rw [rv_pR_sh g676_]; exact o662_
  have o688_ : a192_ < 64 + S675_.1.length := by rw [rv_pR_sh g676_]; exact o663_
  have o689_ : a222_ < 64 + S675_.1.length := by rw [rv_pR_sh g676_]; exact o664_
  have o690_ : a254_ < 64 + S675_.1.length := by rw [rv_pR_sh g676_]; exact o665_
  have o691_ : a304_ < 64 + S675_.1.length := by rw [rv_pR_sh g676_]; exact o666_
  have o692_ : a340_ < 64 + S675_.1.length := by rw [rv_pR_sh g676_]; exact o667_
  have o693_ : a378_ < 64 + S675_.1.length := by rw [rv_pR_sh g676_]; exact o668_
  have o694_ : a418_ < 64 + S675_.1.length := by rw [rv_pR_sh g676_]; exact o669_
  have o695_ : a460_ < 64 + S675_.1.length := by rw [rv_pR_sh g676_]; exact o670_
  have o696_ : a504_ < 64 + S675_.1.length := by rw [rv_pR_sh g676_]; exact o671_
  have o697_ : a550_ < 64 + S675_.1.length := by rw [rv_pR_sh g676_]; exact o672_
  have o698_ : a598_ < 64 + S675_.1.length := by rw [rv_pR_sh g676_]; exact o673_
  have o699_ : a648_ < 64 + S675_.1.length := by rw [rv_pR_sh g676_]; exact o674_
  refine re_pR (pc := 183) g676_ lfX13_81 rfl (Or.inr ⟨rfl, rfl, rfl, (rw7 34 (by decide +kernel) rfl)⟩) (by decide +kernel : decode cX13_init 183 = .ok (.putfield 81, 3)) ?_
  refine re_aloadn (pc := 186) 0 (by decide +kernel : decode cX13_init 186 = .ok (.aload_n 0, 1)) rfl ?_
  refine re_iconst (pc := 187) (5 : Int32) (by decide +kernel : decode cX13_init 187 = .ok (.iconst 5, 1)) (by decide) ?_
  refine re_newa (pc := 188) (t := 0) (N := 5) rfl (rv_alv (List.forall_mem_cons.mpr ⟨o677_, (fun _ z => absurd z List.not_mem_nil)⟩)) ((List.forall_mem_cons.mpr ⟨o677_, (fun _ z => absurd z List.not_mem_nil)⟩)) (by decide) rfl (rw1 137 (by decide +kernel) rfl) (by decide) (by decide) (by decide) (by decide +kernel : decode cX13_init 188 = .ok (.newarray .int, 2)) ?_
  obtain ⟨a700_, g701_, h⟩ := rv_lt_e h
  refine re_nR g701_ ?_
  obtain ⟨S702_, g703_, h⟩ := rv_lt_e h
  refine re_nS g703_ ?_
  have o704_ : a0 < 64 + S702_.1.length := rv_okn g703_ o677_
  have o705_ : a2_ < 64 + S702_.1.length := rv_okn g703_ o678_
  have o706_ : a12_ < 64 + S702_.1.length := rv_okn g703_ o679_
  have o707_ : a24_ < 64 + S702_.1.length := rv_okn g703_ o680_
  have o708_ : a38_ < 64 + S702_.1.length := rv_okn g703_ o681_
  have o709_ : a54_ < 64 + S702_.1.length := rv_okn g703_ o682_
  have o710_ : a72_ < 64 + S702_.1.length := rv_okn g703_ o683_
  have o711_ : a92_ < 64 + S702_.1.length := rv_okn g703_ o684_
  have o712_ : a114_ < 64 + S702_.1.length := rv_okn g703_ o685_
  have o713_ : a138_ < 64 + S702_.1.length := rv_okn g703_ o686_
  have o714_ : a164_ < 64 + S702_.1.length := rv_okn g703_ o687_
  have o715_ : a192_ < 64 + S702_.1.length := rv_okn g703_ o688_
  have o716_ : a222_ < 64 + S702_.1.length := rv_okn g703_ o689_
  have o717_ : a254_ < 64 + S702_.1.length := rv_okn g703_ o690_
  have o718_ : a304_ < 64 + S702_.1.length := rv_okn g703_ o691_
  have o719_ : a340_ < 64 + S702_.1.length := rv_okn g703_ o692_
  have o720_ : a378_ < 64 + S702_.1.length := rv_okn g703_ o693_
  have o721_ : a418_ < 64 + S702_.1.length := rv_okn g703_ o694_
  have o722_ : a460_ < 64 + S702_.1.length := rv_okn g703_ o695_
  have o723_ : a504_ < 64 + S702_.1.length := rv_okn g703_ o696_
  have o724_ : a550_ < 64 + S702_.1.length := rv_okn g703_ o697_
  have o725_ : a598_ < 64 + S702_.1.length := rv_okn g703_ o698_
  have o726_ : a648_ < 64 + S702_.1.length := rv_okn g703_ o699_
  have o727_ : a700_ < 64 + S702_.1.length := by rw [← g701_]; exact rv_okn0 g703_
  obtain ⟨S728_, g729_, h⟩ := rv_b_e h
  have o730_ : a0 < 64 + S728_.1.length := by rw [rv_pR_sh g729_]; exact o704_
  have o731_ : a2_ < 64 + S728_.1.length := by rw [rv_pR_sh g729_]; exact o705_
  have o732_ : a12_ < 64 + S728_.1.length := by rw [rv_pR_sh g729_]; exact o706_
  have o733_ : a24_ < 64 + S728_.1.length := by rw [rv_pR_sh g729_]; exact o707_
  have o734_ : a38_ < 64 + S728_.1.length := by rw [rv_pR_sh g729_]; exact o708_
  have o735_ : a54_ < 64 + S728_.1.length := by rw [rv_pR_sh g729_]; exact o709_
  have o736_ : a72_ < 64 + S728_.1.length := by rw [rv_pR_sh g729_]; exact o710_
  have o737_ : a92_ < 64 + S728_.1.length := by rw [rv_pR_sh g729_]; exact o711_
  have o738_ : a114_ < 64 + S728_.1.length := by rw [rv_pR_sh g729_]; exact o712_
  have o739_ : a138_ < 64 + S728_.1.length := by rw [rv_pR_sh g729_]; exact o713_
  have o740_ : a164_ < 64 + S728_.1.length := by rw [rv_pR_sh g729_]; exact o714_
  have o741_ : a192_ < 64 + S728_.1.length := by rw [rv_pR_sh g729_]; exact o715_
  have o742_ : a222_ < 64 + S728_.1.length := by rw [rv_pR_sh g729_]; exact o716_
  have o743_ : a254_ < 64 + S728_.1.length := by rw [rv_pR_sh g729_]; exact o717_
  have o744_ : a304_ < 64 + S728_.1.length := by rw [rv_pR_sh g729_]; exact o718_
  have o745_ : a340_ < 64 + S728_.1.length := by rw [rv_pR_sh g729_]; exact o719_
  have o746_ : a378_ < 64 + S728_.1.length := by rw [rv_pR_sh g729_]; exact o720_
  have o747_ : a418_ < 64 + S728_.1.length := by rw [rv_pR_sh g729_]; exact o721_
  have o748_ : a460_ < 64 + S728_.1.length := by rw [rv_pR_sh g729_]; exact o722_
  have o749_ : a504_ < 64 + S728_.1.length := by rw [rv_pR_sh g729_]; exact o723_
  have o750_ : a550_ < 64 + S728_.1.length := by rw [rv_pR_sh g729_]; exact o724_
  have o751_ : a598_ < 64 + S728_.1.length := by rw [rv_pR_sh g729_]; exact o725_
  have o752_ : a648_ < 64 + S728_.1.length := by rw [rv_pR_sh g729_]; exact o726_
  have o753_ : a700_ < 64 + S728_.1.length := by rw [rv_pR_sh g729_]; exact o727_
  refine re_pR (pc := 190) g729_ lfX13_84 rfl (Or.inr ⟨rfl, rfl, rfl, (rw7 38 (by decide +kernel) rfl)⟩) (by decide +kernel : decode cX13_init 190 = .ok (.putfield 84, 3)) ?_
  refine re_aloadn (pc := 193) 0 (by decide +kernel : decode cX13_init 193 = .ok (.aload_n 0, 1)) rfl ?_
  refine re_iconst (pc := 194) (5 : Int32) (by decide +kernel : decode cX13_init 194 = .ok (.iconst 5, 1)) (by decide) ?_
  refine re_newa (pc := 195) (t := 0) (N := 5) rfl (rv_alv (List.forall_mem_cons.mpr ⟨o730_, (fun _ z => absurd z List.not_mem_nil)⟩)) ((List.forall_mem_cons.mpr ⟨o730_, (fun _ z => absurd z List.not_mem_nil)⟩)) (by decide) rfl (rw1 137 (by decide +kernel) rfl) (by decide) (by decide) (by decide) (by decide +kernel : decode cX13_init 195 = .ok (.newarray .int, 2)) ?_
  obtain ⟨a754_, g755_, h⟩ := rv_lt_e h
  refine re_nR g755_ ?_
  obtain ⟨S756_, g757_, h⟩ := rv_lt_e h
  refine re_nS g757_ ?_
  have o758_ : a0 < 64 + S756_.1.length := rv_okn g757_ o730_
  have o759_ : a2_ < 64 + S756_.1.length := rv_okn g757_ o731_
  have o760_ : a12_ < 64 + S756_.1.length := rv_okn g757_ o732_
  have o761_ : a24_ < 64 + S756_.1.length := rv_okn g757_ o733_
  have o762_ : a38_ < 64 + S756_.1.length := rv_okn g757_ o734_
  have o763_ : a54_ < 64 + S756_.1.length := rv_okn g757_ o735_
  have o764_ : a72_ < 64 + S756_.1.length := rv_okn g757_ o736_
  have o765_ : a92_ < 64 + S756_.1.length := rv_okn g757_ o737_
  have o766_ : a114_ < 64 + S756_.1.length := rv_okn g757_ o738_
  have o767_ : a138_ < 64 + S756_.1.length := rv_okn g757_ o739_
  have o768_ : a164_ < 64 + S756_.1.length := rv_okn g757_ o740_
  have o769_ : a192_ < 64 + S756_.1.length := rv_okn g757_ o741_
  have o770_ : a222_ < 64 + S756_.1.length := rv_okn g757_ o742_
  have o771_ : a254_ < 64 + S756_.1.length := rv_okn g757_ o743_
  have o772_ : a304_ < 64 + S756_.1.length := rv_okn g757_ o744_
  have o773_ : a340_ < 64 + S756_.1.length := rv_okn g757_ o745_
  have o774_ : a378_ < 64 + S756_.1.length := rv_okn g757_ o746_
  have o775_ : a418_ < 64 + S756_.1.length := rv_okn g757_ o747_
  have o776_ : a460_ < 64 + S756_.1.length := rv_okn g757_ o748_
  have o777_ : a504_ < 64 + S756_.1.length := rv_okn g757_ o749_
  have o778_ : a550_ < 64 + S756_.1.length := rv_okn g757_ o750_
  have o779_ : a598_ < 64 + S756_.1.length := rv_okn g757_ o751_
  have o780_ : a648_ < 64 + S756_.1.length := rv_okn g757_ o752_
  have o781_ : a700_ < 64 + S756_.1.length := rv_okn g757_ o753_
  have o782_ : a754_ < 64 + S756_.1.length := by rw [← g755_]; exact rv_okn0 g757_
  obtain ⟨S783_, g784_, h⟩ := rv_b_e h
  have o785_ : a0 < 64 + S783_.1.length := by rw [rv_pR_sh g784_]; exact o758_
  have o786_ : a2_ < 64 + S783_.1.length := by rw [rv_pR_sh g784_]; exact o759_
  have o787_ : a12_ < 64 + S783_.1.length := by rw [rv_pR_sh g784_]; exact o760_
  have o788_ : a24_ < 64 + S783_.1.length := by rw [rv_pR_sh g784_]; exact o761_
  have o789_ : a38_ < 64 + S783_.1.length := by rw [rv_pR_sh g784_]; exact o762_
  have o790_ : a54_ < 64 + S783_.1.length := by rw [rv_pR_sh g784_]; exact o763_
  have o791_ : a72_ < 64 + S783_.1.length := by rw [rv_pR_sh g784_]; exact o764_
  have o792_ : a92_ < 64 + S783_.1.length := by rw [rv_pR_sh g784_]; exact o765_
  have o793_ : a114_ < 64 + S783_.1.length := by rw [rv_pR_sh g784_]; exact o766_
  have o794_ : a138_ < 64 + S783_.1.length := by rw [rv_pR_sh g784_]; exact o767_
  have o795_ : a164_ < 64 + S783_.1.length := by rw [rv_pR_sh g784_]; exact o768_
  have o796_ : a192_ < 64 + S783_.1.length := by rw [rv_pR_sh g784_]; exact o769_
  have o797_ : a222_ < 64 + S783_.1.length := by rw [rv_pR_sh g784_]; exact o770_
  have o798_ : a254_ < 64 + S783_.1.length := by rw [rv_pR_sh g784_]; exact o771_
  have o799_ : a304_ < 64 + S783_.1.length := by rw [rv_pR_sh g784_]; exact o772_
  have o800_ : a340_ < 64 + S783_.1.length := by rw [rv_pR_sh g784_]; exact o773_
  have o801_ : a378_ < 64 + S783_.1.length := by rw [rv_pR_sh g784_]; exact o774_
  have o802_ : a418_ < 64 + S783_.1.length := by rw [rv_pR_sh g784_]; exact o775_
  have o803_ : a460_ < 64 + S783_.1.length := by rw [rv_pR_sh g784_]; exact o776_
  have o804_ : a504_ < 64 + S783_.1.length := by rw [rv_pR_sh g784_]; exact o777_
  have o805_ : a550_ < 64 + S783_.1.length := by rw [rv_pR_sh g784_]; exact o778_
  have o806_ : a598_ < 64 + S783_.1.length := by rw [rv_pR_sh g784_]; exact o779_
  have o807_ : a648_ < 64 + S783_.1.length := by rw [rv_pR_sh g784_]; exact o780_
  have o808_ : a700_ < 64 + S783_.1.length := by rw [rv_pR_sh g784_]; exact o781_
  have o809_ : a754_ < 64 + S783_.1.length := by rw [rv_pR_sh g784_]; exact o782_
  refine re_pR (pc := 197) g784_ lfX13_87 rfl (Or.inr ⟨rfl, rfl, rfl, (rw7 39 (by decide +kernel) rfl)⟩) (by decide +kernel : decode cX13_init 197 = .ok (.putfield 87, 3)) ?_
  refine re_aloadn (pc := 200) 0 (by decide +kernel : decode cX13_init 200 = .ok (.aload_n 0, 1)) rfl ?_
  refine re_iconst (pc := 201) (5 : Int32) (by decide +kernel : decode cX13_init 201 = .ok (.iconst 5, 1)) (by decide) ?_
  refine re_newa (pc := 202) (t := 0) (N := 5) rfl (rv_alv (List.forall_mem_cons.mpr ⟨o785_, (fun _ z => absurd z List.not_mem_nil)⟩)) ((List.forall_mem_cons.mpr ⟨o785_, (fun _ z => absurd z List.not_mem_nil)⟩)) (by decide) rfl (rw1 137 (by decide +kernel) rfl) (by decide) (by decide) (by decide) (by decide +kernel : decode cX13_init 202 = .ok (.newarray .int, 2)) ?_
  obtain ⟨a810_, g811_, h⟩ := rv_lt_e h
  refine re_nR g811_ ?_
  obtain ⟨S812_, g813_, h⟩ := rv_lt_e h
  refine re_nS g813_ ?_
  have o814_ : a0 < 64 + S812_.1.length := rv_okn g813_ o785_
  have o815_ : a2_ < 64 + S812_.1.length := rv_okn g813_ o786_
  have o816_ : a12_ < 64 + S812_.1.length := rv_okn g813_ o787_
  have o817_ : a24_ < 64 + S812_.1.length := rv_okn g813_ o788_
  have o818_ : a38_ < 64 + S812_.1.length := rv_okn g813_ o789_
  have o819_ : a54_ < 64 + S812_.1.length := rv_okn g813_ o790_
  have o820_ : a72_ < 64 + S812_.1.length := rv_okn g813_ o791_
  have o821_ : a92_ < 64 + S812_.1.length := rv_okn g813_ o792_
  have o822_ : a114_ < 64 + S812_.1.length := rv_okn g813_ o793_
  have o823_ : a138_ < 64 + S812_.1.length := rv_okn g813_ o794_
  have o824_ : a164_ < 64 + S812_.1.length := rv_okn g813_ o795_
  have o825_ : a192_ < 64 + S812_.1.length := rv_okn g813_ o796_
  have o826_ : a222_ < 64 + S812_.1.length := rv_okn g813_ o797_
  have o827_ : a254_ < 64 + S812_.1.length := rv_okn g813_ o798_
  have o828_ : a304_ < 64 + S812_.1.length := rv_okn g813_ o799_
  have o829_ : a340_ < 64 + S812_.1.length := rv_okn g813_ o800_
  have o830_ : a378_ < 64 + S812_.1.length := rv_okn g813_ o801_
  have o831_ : a418_ < 64 + S812_.1.length := rv_okn g813_ o802_
  have o832_ : a460_ < 64 + S812_.1.length := rv_okn g813_ o803_
  have o833_ : a504_ < 64 + S812_.1.length := rv_okn g813_ o804_
  have o834_ : a550_ < 64 + S812_.1.length := rv_okn g813_ o805_
  have o835_ : a598_ < 64 + S812_.1.length := rv_okn g813_ o806_
  have o836_ : a648_ < 64 + S812_.1.length := rv_okn g813_ o807_
  have o837_ : a700_ < 64 + S812_.1.length := rv_okn g813_ o808_
  have o838_ : a754_ < 64 + S812_.1.length := rv_okn g813_ o809_
  have o839_ : a810_ < 64 + S812_.1.length := by rw [← g811_]; exact rv_okn0 g813_
  obtain ⟨S840_, g841_, h⟩ := rv_b_e h
  have o842_ : a0 < 64 + S840_.1.length := by rw [rv_pR_sh g841_]; exact o814_
  have o843_ : a2_ < 64 + S840_.1.length := by rw [rv_pR_sh g841_]; exact o815_
  have o844_ : a12_ < 64 + S840_.1.length := by rw [rv_pR_sh g841_]; exact o816_
  have o845_ : a24_ < 64 + S840_.1.length := by rw [rv_pR_sh g841_]; exact o817_
  have o846_ : a38_ < 64 + S840_.1.length := by rw [rv_pR_sh g841_]; exact o818_
  have o847_ : a54_ < 64 + S840_.1.length := by rw [rv_pR_sh g841_]; exact o819_
  have o848_ : a72_ < 64 + S840_.1.length := by rw [rv_pR_sh g841_]; exact o820_
  have o849_ : a92_ < 64 + S840_.1.length := by rw [rv_pR_sh g841_]; exact o821_
  have o850_ : a114_ < 64 + S840_.1.length := by rw [rv_pR_sh g841_]; exact o822_
  have o851_ : a138_ < 64 + S840_.1.length := by rw [rv_pR_sh g841_]; exact o823_
  have o852_ : a164_ < 64 + S840_.1.length := by rw [rv_pR_sh g841_]; exact o824_
  have o853_ : a192_ < 64 + S840_.1.length := by rw [rv_pR_sh g841_]; exact o825_
  have o854_ : a222_ < 64 + S840_.1.length := by rw [rv_pR_sh g841_]; exact o826_
  have o855_ : a254_ < 64 + S840_.1.length := by rw [rv_pR_sh g841_]; exact o827_
  have o856_ : a304_ < 64 + S840_.1.length := by rw [rv_pR_sh g841_]; exact o828_
  have o857_ : a340_ < 64 + S840_.1.length := by rw [rv_pR_sh g841_]; exact o829_
  have o858_ : a378_ < 64 + S840_.1.length := by rw [rv_pR_sh g841_]; exact o830_
  have o859_ : a418_ < 64 + S840_.1.length := by rw [rv_pR_sh g841_]; exact o831_
  have o860_ : a460_ < 64 + S840_.1.length := by rw [rv_pR_sh g841_]; exact o832_
  have o861_ : a504_ < 64 + S840_.1.length := by rw [rv_pR_sh g841_]; exact o833_
  have o862_ : a550_ < 64 + S840_.1.length := by rw [rv_pR_sh g841_]; exact o834_
  have o863_ : a598_ < 64 + S840_.1.length := by rw [rv_pR_sh g841_]; exact o835_
  have o864_ : a648_ < 64 + S840_.1.length := by rw [rv_pR_sh g841_]; exact o836_
  have o865_ : a700_ < 64 + S840_.1.length := by rw [rv_pR_sh g841_]; exact o837_
  have o866_ : a754_ < 64 + S840_.1.length := by rw [rv_pR_sh g841_]; exact o838_
  have o867_ : a810_ < 64 + S840_.1.length := by rw [rv_pR_sh g841_]; exact o839_
  refine re_pR (pc := 204) g841_ lfX13_90 rfl (Or.inr ⟨rfl, rfl, rfl, (rw7 40 (by decide +kernel) rfl)⟩) (by decide +kernel : decode cX13_init 204 = .ok (.putfield 90, 3)) ?_
  refine re_aloadn (pc := 207) 0 (by decide +kernel : decode cX13_init 207 = .ok (.aload_n 0, 1)) rfl ?_
  refine re_iconst (pc := 208) (3 : Int32) (by decide +kernel : decode cX13_init 208 = .ok (.iconst 3, 1)) (by decide) ?_
  refine re_newa (pc := 209) (t := 0) (N := 3) rfl (rv_alv (List.forall_mem_cons.mpr ⟨o842_, (fun _ z => absurd z List.not_mem_nil)⟩)) ((List.forall_mem_cons.mpr ⟨o842_, (fun _ z => absurd z List.not_mem_nil)⟩)) (by decide) rfl (rw1 137 (by decide +kernel) rfl) (by decide) (by decide) (by decide) (by decide +kernel : decode cX13_init 209 = .ok (.newarray .int, 2)) ?_
  obtain ⟨a868_, g869_, h⟩ := rv_lt_e h
  refine re_nR g869_ ?_
  obtain ⟨S870_, g871_, h⟩ := rv_lt_e h
  refine re_nS g871_ ?_
  have o872_ : a0 < 64 + S870_.1.length := rv_okn g871_ o842_
  have o873_ : a2_ < 64 + S870_.1.length := rv_okn g871_ o843_
  have o874_ : a12_ < 64 + S870_.1.length := rv_okn g871_ o844_
  have o875_ : a24_ < 64 + S870_.1.length := rv_okn g871_ o845_
  have o876_ : a38_ < 64 + S870_.1.length := rv_okn g871_ o846_
  have o877_ : a54_ < 64 + S870_.1.length := rv_okn g871_ o847_
  have o878_ : a72_ < 64 + S870_.1.length := rv_okn g871_ o848_
  have o879_ : a92_ < 64 + S870_.1.length := rv_okn g871_ o849_
  have o880_ : a114_ < 64 + S870_.1.length := rv_okn g871_ o850_
  have o881_ : a138_ < 64 + S870_.1.length := rv_okn g871_ o851_
  have o882_ : a164_ < 64 + S870_.1.length := rv_okn g871_ o852_
  have o883_ : a192_ < 64 + S870_.1.length := rv_okn g871_ o853_
  have o884_ : a222_ < 64 + S870_.1.length := rv_okn g871_ o854_
  have o885_ : a254_ < 64 + S870_.1.length := rv_okn g871_ o855_
  have o886_ : a304_ < 64 + S870_.1.length := rv_okn g871_ o856_
  have o887_ : a340_ < 64 + S870_.1.length := rv_okn g871_ o857_
  have o888_ : a378_ < 64 + S870_.1.length := rv_okn g871_ o858_
  have o889_ : a418_ < 64 + S870_.1.length := rv_okn g871_ o859_
  have o890_ : a460_ < 64 + S870_.1.length := rv_okn g871_ o860_
  have o891_ : a504_ < 64 + S870_.1.length := rv_okn g871_ o861_
  have o892_ : a550_ < 64 + S870_.1.length := rv_okn g871_ o862_
  have o893_ : a598_ < 64 + S870_.1.length := rv_okn g871_ o863_
  have o894_ : a648_ < 64 + S870_.1.length := rv_okn g871_ o864_
  have o895_ : a700_ < 64 + S870_.1.length := rv_okn g871_ o865_
  have o896_ : a754_ < 64 + S870_.1.length := rv_okn g871_ o866_
  have o897_ : a810_ < 64 + S870_.1.length := rv_okn g871_ o867_
  have o898_ : a868_ < 64 + S870_.1.length := by rw [← g869_]; exact rv_okn0 g871_
  refine re_dup (pc := 211) (by decide +kernel : decode cX13_init 211 = .ok (.dup, 1)) rfl ?_
  refine re_iconst (pc := 212) (0 : Int32) (by decide +kernel : decode cX13_init 212 = .ok (.iconst 0, 1)) (by decide) ?_
  refine re_iconst (pc := 213) (-1 : Int32) (by decide +kernel : decode cX13_init 213 = .ok (.iconst (-1), 1)) (by decide) ?_
  obtain ⟨S899_, g900_, h⟩ := rv_b_e h
  have o901_ : a0 < 64 + S899_.1.length := by rw [rv_uI_sh g900_]; exact o872_
  have o902_ : a2_ < 64 + S899_.1.length := by rw [rv_uI_sh g900_]; exact o873_
  have o903_ : a12_ < 64 + S899_.1.length := by rw [rv_uI_sh g900_]; exact o874_
  have o904_ : a24_ < 64 + S899_.1.length := by rw [rv_uI_sh g900_]; exact o875_
  have o905_ : a38_ < 64 + S899_.1.length := by rw [rv_uI_sh g900_]; exact o876_
  have o906_ : a54_ < 64 + S899_.1.length := by rw [rv_uI_sh g900_]; exact o877_
  have o907_ : a72_ < 64 + S899_.1.length := by rw [rv_uI_sh g900_]; exact o878_
  have o908_ : a92_ < 64 + S899_.1.length := by rw [rv_uI_sh g900_]; exact o879_
  have o909_ : a114_ < 64 + S899_.1.length := by rw [rv_uI_sh g900_]; exact o880_
  have o910_ : a138_ < 64 + S899_.1.length := by rw [rv_uI_sh g900_]; exact o881_
  have o911_ : a164_ < 64 + S899_.1.length := by rw [rv_uI_sh g900_]; exact o882_
  have o912_ : a192_ < 64 + S899_.1.length := by rw [rv_uI_sh g900_]; exact o883_
  have o913_ : a222_ < 64 + S899_.1.length := by rw [rv_uI_sh g900_]; exact o884_
  have o914_ : a254_ < 64 + S899_.1.length := by rw [rv_uI_sh g900_]; exact o885_
  have o915_ : a304_ < 64 + S899_.1.length := by rw [rv_uI_sh g900_]; exact o886_
  have o916_ : a340_ < 64 + S899_.1.length := by rw [rv_uI_sh g900_]; exact o887_
  have o917_ : a378_ < 64 + S899_.1.length := by rw [rv_uI_sh g900_]; exact o888_
  have o918_ : a418_ < 64 + S899_.1.length := by rw [rv_uI_sh g900_]; exact o889_
  have o919_ : a460_ < 64 + S899_.1.length := by rw [rv_uI_sh g900_]; exact o890_
  have o920_ : a504_ < 64 + S899_.1.length := by rw [rv_uI_sh g900_]; exact o891_
  have o921_ : a550_ < 64 + S899_.1.length := by rw [rv_uI_sh g900_]; exact o892_
  have o922_ : a598_ < 64 + S899_.1.length := by rw [rv_uI_sh g900_]; exact o893_
  have o923_ : a648_ < 64 + S899_.1.length := by rw [rv_uI_sh g900_]; exact o894_
  have o924_ : a700_ < 64 + S899_.1.length := by rw [rv_uI_sh g900_]; exact o895_
  have o925_ : a754_ < 64 + S899_.1.length := by rw [rv_uI_sh g900_]; exact o896_
  have o926_ : a810_ < 64 + S899_.1.length := by rw [rv_uI_sh g900_]; exact o897_
  have o927_ : a868_ < 64 + S899_.1.length := by rw [rv_uI_sh g900_]; exact o898_
  refine re_uI (pc := 214) g900_ (by decide +kernel : decode cX13_init 214 = .ok (.iastore, 1)) ?_
  refine re_dup (pc := 215) (by decide +kernel : decode cX13_init 215 = .ok (.dup, 1)) rfl ?_
  refine re_iconst (pc := 216) (1 : Int32) (by decide +kernel : decode cX13_init 216 = .ok (.iconst 1, 1)) (by decide) ?_
  refine re_iconst (pc := 217) (-1 : Int32) (by decide +kernel : decode cX13_init 217 = .ok (.iconst (-1), 1)) (by decide) ?_
  obtain ⟨S928_, g929_, h⟩ := rv_b_e h
  have o930_ : a0 < 64 + S928_.1.length := by rw [rv_uI_sh g929_]; exact o901_
  have o931_ : a2_ < 64 + S928_.1.length := by rw [rv_uI_sh g929_]; exact o902_
  have o932_ : a12_ < 64 + S928_.1.length := by rw [rv_uI_sh g929_]; exact o903_
  have o933_ : a24_ < 64 + S928_.1.length := by rw [rv_uI_sh g929_]; exact o904_
  have o934_ : a38_ < 64 + S928_.1.length := by rw [rv_uI_sh g929_]; exact o905_
  have o935_ : a54_ < 64 + S928_.1.length := by rw [rv_uI_sh g929_]; exact o906_
  have o936_ : a72_ < 64 + S928_.1.length := by rw [rv_uI_sh g929_]; exact o907_
  have o937_ : a92_ < 64 + S928_.1.length := by rw [rv_uI_sh g929_]; exact o908_
  have o938_ : a114_ < 64 + S928_.1.length := by rw [rv_uI_sh g929_]; exact o909_
  have o939_ : a138_ < 64 + S928_.1.length := by rw [rv_uI_sh g929_]; exact o910_
  have o940_ : a164_ < 64 + S928_.1.length := by rw [rv_uI_sh g929_]; exact o911_
  have o941_ : a192_ < 64 + S928_.1.length := by rw [rv_uI_sh g929_]; exact o912_
  have o942_ : a222_ < 64 + S928_.1.length := by rw [rv_uI_sh g929_]; exact o913_
  have o943_ : a254_ < 64 + S928_.1.length := by rw [rv_uI_sh g929_]; exact o914_
  have o944_ : a304_ < 64 + S928_.1.length := by rw [rv_uI_sh g929_]; exact o915_
  have o945_ : a340_ < 64 + S928_.1.length := by rw [rv_uI_sh g929_]; exact o916_
  have o946_ : a378_ < 64 + S928_.1.length := by rw [rv_uI_sh g929_]; exact o917_
  have o947_ : a418_ < 64 + S928_.1.length := by rw [rv_uI_sh g929_]; exact o918_
  have o948_ : a460_ < 64 + S928_.1.length := by rw [rv_uI_sh g929_]; exact o919_
  have o949_ : a504_ < 64 + S928_.1.length := by rw [rv_uI_sh g929_]; exact o920_
  have o950_ : a550_ < 64 + S928_.1.length := by rw [rv_uI_sh g929_]; exact o921_
  have o951_ : a598_ < 64 + S928_.1.length := by rw [rv_uI_sh g929_]; exact o922_
  have o952_ : a648_ < 64 + S928_.1.length := by rw [rv_uI_sh g929_]; exact o923_
  have o953_ : a700_ < 64 + S928_.1.length := by rw [rv_uI_sh g929_]; exact o924_
  have o954_ : a754_ < 64 + S928_.1.length := by rw [rv_uI_sh g929_]; exact o925_
  have o955_ : a810_ < 64 + S928_.1.length := by rw [rv_uI_sh g929_]; exact o926_
  have o956_ : a868_ < 64 + S928_.1.length := by rw [rv_uI_sh g929_]; exact o927_
  refine re_uI (pc := 218) g929_ (by decide +kernel : decode cX13_init 218 = .ok (.iastore, 1)) ?_
  refine re_dup (pc := 219) (by decide +kernel : decode cX13_init 219 = .ok (.dup, 1)) rfl ?_
  refine re_iconst (pc := 220) (2 : Int32) (by decide +kernel : decode cX13_init 220 = .ok (.iconst 2, 1)) (by decide) ?_
  refine re_iconst (pc := 221) (-1 : Int32) (by decide +kernel : decode cX13_init 221 = .ok (.iconst (-1), 1)) (by decide) ?_
  obtain ⟨S957_, g958_, h⟩ := rv_b_e h
  have o959_ : a0 < 64 + S957_.1.length := by rw [rv_uI_sh g958_]; exact o930_
  have o960_ : a2_ < 64 + S957_.1.length := by rw [rv_uI_sh g958_]; exact o931_
  have o961_ : a12_ < 64 + S957_.1.length := by rw [rv_uI_sh g958_]; exact o932_
  have o962_ : a24_ < 64 + S957_.1.length := by rw [rv_uI_sh g958_]; exact o933_
  have o963_ : a38_ < 64 + S957_.1.length := by rw [rv_uI_sh g958_]; exact o934_
  have o964_ : a54_ < 64 + S957_.1.length := by rw [rv_uI_sh g958_]; exact o935_
  have o965_ : a72_ < 64 + S957_.1.length := by rw [rv_uI_sh g958_]; exact o936_
  have o966_ : a92_ < 64 + S957_.1.length := by rw [rv_uI_sh g958_]; exact o937_
  have o967_ : a114_ < 64 + S957_.1.length := by rw [rv_uI_sh g958_]; exact o938_
  have o968_ : a138_ < 64 + S957_.1.length := by rw [rv_uI_sh g958_]; exact o939_
  have o969_ : a164_ < 64 + S957_.1.length := by rw [rv_uI_sh g958_]; exact o940_
  have o970_ : a192_ < 64 + S957_.1.length := by rw [rv_uI_sh g958_]; exact o941_
  have o971_ : a222_ < 64 + S957_.1.length := by rw [rv_uI_sh g958_]; exact o942_
  have o972_ : a254_ < 64 + S957_.1.length := by rw [rv_uI_sh g958_]; exact o943_
  have o973_ : a304_ < 64 + S957_.1.length := by rw [rv_uI_sh g958_]; exact o944_
  have o974_ : a340_ < 64 + S957_.1.length := by rw [rv_uI_sh g958_]; exact o945_
  have o975_ : a378_ < 64 + S957_.1.length := by rw [rv_uI_sh g958_]; exact o946_
  have o976_ : a418_ < 64 + S957_.1.length := by rw [rv_uI_sh g958_]; exact o947_
  have o977_ : a460_ < 64 + S957_.1.length := by rw [rv_uI_sh g958_]; exact o948_
  have o978_ : a504_ < 64 + S957_.1.length := by rw [rv_uI_sh g958_]; exact o949_
  have o979_ : a550_ < 64 + S957_.1.length := by rw [rv_uI_sh g958_]; exact o950_
  have o980_ : a598_ < 64 + S957_.1.length := by rw [rv_uI_sh g958_]; exact o951_
  have o981_ : a648_ < 64 + S957_.1.length := by rw [rv_uI_sh g958_]; exact o952_
  have o982_ : a700_ < 64 + S957_.1.length := by rw [rv_uI_sh g958_]; exact o953_
  have o983_ : a754_ < 64 + S957_.1.length := by rw [rv_uI_sh g958_]; exact o954_
  have o984_ : a810_ < 64 + S957_.1.length := by rw [rv_uI_sh g958_]; exact o955_
  have o985_ : a868_ < 64 + S957_.1.length := by rw [rv_uI_sh g958_]; exact o956_
  refine re_uI (pc := 222) g958_ (by decide +kernel : decode cX13_init 222 = .ok (.iastore, 1)) ?_
  obtain ⟨S986_, g987_, h⟩ := rv_b_e h
  have o988_ : a0 < 64 + S986_.1.length := by rw [rv_pR_sh g987_]; exact o959_
  have o989_ : a2_ < 64 + S986_.1.length := by rw [rv_pR_sh g987_]; exact o960_
  have o990_ : a12_ < 64 + S986_.1.length := by rw [rv_pR_sh g987_]; exact o961_
  have o991_ : a24_ < 64 + S986_.1.length := by rw [rv_pR_sh g987_]; exact o962_
  have o992_ : a38_ < 64 + S986_.1.length := by rw [rv_pR_sh g987_]; exact o963_
  have o993_ : a54_ < 64 + S986_.1.length := by rw [rv_pR_sh g987_]; exact o964_
  have o994_ : a72_ < 64 + S986_.1.length := by rw [rv_pR_sh g987_]; exact o965_
  have o995_ : a92_ < 64 + S986_.1.length := by rw [rv_pR_sh g987_]; exact o966_
  have o996_ : a114_ < 64 + S986_.1.length := by rw [rv_pR_sh g987_]; exact o967_
  have o997_ : a138_ < 64 + S986_.1.length := by rw [rv_pR_sh g987_]; exact o968_
  have o998_ : a164_ < 64 + S986_.1.length := by rw [rv_pR_sh g987_]; exact o969_
  have o999_ : a192_ < 64 + S986_.1.length := by rw [rv_pR_sh g987_]; exact o970_
  have o1000_ : a222_ < 64 + S986_.1.length := by rw [rv_pR_sh g987_]; exact o971_
  have o1001_ : a254_ < 64 + S986_.1.length := by rw [rv_pR_sh g987_]; exact o972_
  have o1002_ : a304_ < 64 + S986_.1.length := by rw [rv_pR_sh g987_]; exact o973_
  have o1003_ : a340_ < 64 + S986_.1.length := by rw [rv_pR_sh g987_]; exact o974_
  have o1004_ : a378_ < 64 + S986_.1.length := by rw [rv_pR_sh g987_]; exact o975_
  have o1005_ : a418_ < 64 + S986_.1.length := by rw [rv_pR_sh g987_]; exact o976_
  have o1006_ : a460_ < 64 + S986_.1.length := by rw [rv_pR_sh g987_]; exact o977_
  have o1007_ : a504_ < 64 + S986_.1.length := by rw [rv_pR_sh g987_]; exact o978_
  have o1008_ : a550_ < 64 + S986_.1.length := by rw [rv_pR_sh g987_]; exact o979_
  have o1009_ : a598_ < 64 + S986_.1.length := by rw [rv_pR_sh g987_]; exact o980_
  have o1010_ : a648_ < 64 + S986_.1.length := by rw [rv_pR_sh g987_]; exact o981_
  have o1011_ : a700_ < 64 + S986_.1.length := by rw [rv_pR_sh g987_]; exact o982_
  have o1012_ : a754_ < 64 + S986_.1.length := by rw [rv_pR_sh g987_]; exact o983_
  have o1013_ : a810_ < 64 + S986_.1.length := by rw [rv_pR_sh g987_]; exact o984_
  have o1014_ : a868_ < 64 + S986_.1.length := by rw [rv_pR_sh g987_]; exact o985_
  refine re_pR (pc := 223) g987_ lfX13_93 rfl (Or.inr ⟨rfl, rfl, rfl, (rw7 48 (by decide +kernel) rfl)⟩) (by decide +kernel : decode cX13_init 223 = .ok (.putfield 93, 3)) ?_
  refine re_aloadn (pc := 226) 0 (by decide +kernel : decode cX13_init 226 = .ok (.aload_n 0, 1)) rfl ?_
  refine re_sipush (pc := 227) (240 : Int32) (by decide +kernel : decode cX13_init 227 = .ok (.sipush 240, 3)) (by decide) ?_
  refine re_newa (pc := 230) (t := 0) (N := 240) rfl (rv_alv (List.forall_mem_cons.mpr ⟨o988_, (fun _ z => absurd z List.not_mem_nil)⟩)) ((List.forall_mem_cons.mpr ⟨o988_, (fun _ z => absurd z List.not_mem_nil)⟩)) (by decide) rfl (rw1 137 (by decide +kernel) rfl) (by decide) (by decide) (by decide) (by decide +kernel : decode cX13_init 230 = .ok (.newarray .int, 2)) ?_
  obtain ⟨a1015_, g1016_, h⟩ := rv_lt_e h
  refine re_nR g1016_ ?_
  obtain ⟨S1017_, g1018_, h⟩ := rv_lt_e h
  refine re_nS g1018_ ?_
  have o1019_ : a0 < 64 + S1017_.1.length := rv_okn g1018_ o988_
  have o1020_ : a2_ < 64 + S1017_.1.length := rv_okn g1018_ o989_
  have o1021_ : a12_ < 64 + S1017_.1.length := rv_okn g1018_ o990_
  have o1022_ : a24_ < 64 + S1017_.1.length := rv_okn g1018_ o991_
  have o1023_ : a38_ < 64 + S1017_.1.length := rv_okn g1018_ o992_
  have o1024_ : a54_ < 64 + S1017_.1.length := rv_okn g1018_ o993_
  have o1025_ : a72_ < 64 + S1017_.1.length := rv_okn g1018_ o994_
  have o1026_ : a92_ < 64 + S1017_.1.length := rv_okn g1018_ o995_
  have o1027_ : a114_ < 64 + S1017_.1.length := rv_okn g1018_ o996_
  have o1028_ : a138_ < 64 + S1017_.1.length := rv_okn g1018_ o997_
  have o1029_ : a164_ < 64 + S1017_.1.length := rv_okn g1018_ o998_
  have o1030_ : a192_ < 64 + S1017_.1.length := rv_okn g1018_ o999_
  have o1031_ : a222_ < 64 + S1017_.1.length := rv_okn g1018_ o1000_
  have o1032_ : a254_ < 64 + S1017_.1.length := rv_okn g1018_ o1001_
  have o1033_ : a304_ < 64 + S1017_.1.length := rv_okn g1018_ o1002_
  have o1034_ : a340_ < 64 + S1017_.1.length := rv_okn g1018_ o1003_
  have o1035_ : a378_ < 64 + S1017_.1.length := rv_okn g1018_ o1004_
  have o1036_ : a418_ < 64 + S1017_.1.length := rv_okn g1018_ o1005_
  have o1037_ : a460_ < 64 + S1017_.1.length := rv_okn g1018_ o1006_
  have o1038_ : a504_ < 64 + S1017_.1.length := rv_okn g1018_ o1007_
  have o1039_ : a550_ < 64 + S1017_.1.length := rv_okn g1018_ o1008_
  have o1040_ : a598_ < 64 + S1017_.1.length := rv_okn g1018_ o1009_
  have o1041_ : a648_ < 64 + S1017_.1.length := rv_okn g1018_ o1010_
  have o1042_ : a700_ < 64 + S1017_.1.length := rv_okn g1018_ o1011_
  have o1043_ : a754_ < 64 + S1017_.1.length := rv_okn g1018_ o1012_
  have o1044_ : a810_ < 64 + S1017_.1.length := rv_okn g1018_ o1013_
  have o1045_ : a868_ < 64 + S1017_.1.length := rv_okn g1018_ o1014_
  have o1046_ : a1015_ < 64 + S1017_.1.length := by rw [← g1016_]; exact rv_okn0 g1018_
  obtain ⟨S1047_, g1048_, h⟩ := rv_b_e h
  have o1049_ : a0 < 64 + S1047_.1.length := by rw [rv_pR_sh g1048_]; exact o1019_
  have o1050_ : a2_ < 64 + S1047_.1.length := by rw [rv_pR_sh g1048_]; exact o1020_
  have o1051_ : a12_ < 64 + S1047_.1.length := by rw [rv_pR_sh g1048_]; exact o1021_
  have o1052_ : a24_ < 64 + S1047_.1.length := by rw [rv_pR_sh g1048_]; exact o1022_
  have o1053_ : a38_ < 64 + S1047_.1.length := by rw [rv_pR_sh g1048_]; exact o1023_
  have o1054_ : a54_ < 64 + S1047_.1.length := by rw [rv_pR_sh g1048_]; exact o1024_
  have o1055_ : a72_ < 64 + S1047_.1.length := by rw [rv_pR_sh g1048_]; exact o1025_
  have o1056_ : a92_ < 64 + S1047_.1.length := by rw [rv_pR_sh g1048_]; exact o1026_
  have o1057_ : a114_ < 64 + S1047_.1.length := by rw [rv_pR_sh g1048_]; exact o1027_
  have o1058_ : a138_ < 64 + S1047_.1.length := by rw [rv_pR_sh g1048_]; exact o1028_
  have o1059_ : a164_ < 64 + S1047_.1.length := by rw [rv_pR_sh g1048_]; exact o1029_
  have o1060_ : a192_ < 64 + S1047_.1.length := by rw [rv_pR_sh g1048_]; exact o1030_
  have o1061_ : a222_ < 64 + S1047_.1.length := by rw [rv_pR_sh g1048_]; exact o1031_
  have o1062_ : a254_ < 64 + S1047_.1.length := by rw [rv_pR_sh g1048_]; exact o1032_
  have o1063_ : a304_ < 64 + S1047_.1.length := by rw [rv_pR_sh g1048_]; exact o1033_
  have o1064_ : a340_ < 64 + S1047_.1.length := by rw [rv_pR_sh g1048_]; exact o1034_
  have o1065_ : a378_ < 64 + S1047_.1.length := by rw [rv_pR_sh g1048_]; exact o1035_
  have o1066_ : a418_ < 64 + S1047_.1.length := by rw [rv_pR_sh g1048_]; exact o1036_
  have o1067_ : a460_ < 64 + S1047_.1.length := by rw [rv_pR_sh g1048_]; exact o1037_
  have o1068_ : a504_ < 64 + S1047_.1.length := by rw [rv_pR_sh g1048_]; exact o1038_
  have o1069_ : a550_ < 64 + S1047_.1.length := by rw [rv_pR_sh g1048_]; exact o1039_
  have o1070_ : a598_ < 64 + S1047_.1.length := by rw [rv_pR_sh g1048_]; exact o1040_
  have o1071_ : a648_ < 64 + S1047_.1.length := by rw [rv_pR_sh g1048_]; exact o1041_
  have o1072_ : a700_ < 64 + S1047_.1.length := by rw [rv_pR_sh g1048_]; exact o1042_
  have o1073_ : a754_ < 64 + S1047_.1.length := by rw [rv_pR_sh g1048_]; exact o1043_
  have o1074_ : a810_ < 64 + S1047_.1.length := by rw [rv_pR_sh g1048_]; exact o1044_
  have o1075_ : a868_ < 64 + S1047_.1.length := by rw [rv_pR_sh g1048_]; exact o1045_
  have o1076_ : a1015_ < 64 + S1047_.1.length := by rw [rv_pR_sh g1048_]; exact o1046_
  refine re_pR (pc := 232) g1048_ lfX13_96 rfl (Or.inr ⟨rfl, rfl, rfl, (rw7 49 (by decide +kernel) rfl)⟩) (by decide +kernel : decode cX13_init 232 = .ok (.putfield 96, 3)) ?_
  cases h
  exact re_vret (by decide +kernel : decode cX13_init 235 = .ok (.return_, 1))
theorem metX13_init (n : Nat) (S : rvS) (a0 : Nat) (S' : rvS) (h : fnX13_init n S a0 = some S') : rv_Met yX13_init mX13_init 1 [.ref a0] S none S' := rv_Met.of ⟨by decide +kernel, rfl, (fun z => by first | rfl | cases z), rfl⟩ (Nat.le_of_ble_eq_true rfl) rfl (eX13_init_in n S a0 S' h)
noncomputable def fnX13_thrown (n : Nat) (S : rvS) (a0 : Nat) : Option Int32 :=
  (rv_gI S 11 a0 0).bind fun x1_ =>
  some x1_
set_option maxRecDepth 20000 in
set_option maxHeartbeats 4000000 in
theorem eX13_thrown_in (n : Nat) (S : rvS) (a0 : Nat) (r : Int32) (h : fnX13_thrown n S a0 = some r) : rv_Ev mX13_thrown 0 0 [(0, .ref a0)] [] S (some (.int r)) S := by
  unfold fnX13_thrown at h
  refine re_aloadn (pc := 0) 0 (by decide +kernel : decode cX13_thrown 0 = .ok (.aload_n 0, 1)) rfl ?_
  obtain ⟨x1_, g2_, h⟩ := rv_b_e h
  refine re_gI (pc := 1) g2_ lfX13_99 rfl (by decide +kernel : decode cX13_thrown 1 = .ok (.getfield 99, 3)) ?_
  cases h
  exact re_iret (fun ty hty => by cases hty; rfl) (by decide +kernel : decode cX13_thrown 4 = .ok (.ireturn, 1))
theorem metX13_thrown (n : Nat) (S : rvS) (a0 : Nat) (r : Int32) (h : fnX13_thrown n S a0 = some r) : rv_Met yX13_thrown mX13_thrown 0 [.ref a0] S (some (.int r)) S := rv_Met.of ⟨by decide +kernel, rfl, (fun z => by first | rfl | cases z), rfl⟩ (Nat.le_of_ble_eq_true rfl) rfl (eX13_thrown_in n S a0 r h)
noncomputable def fnX13_refuse (n : Nat) (S : rvS) (a0 : Nat) : Option (Int32 × rvS) :=
  (rv_pI S 11 a0 0 (1 : Int32)).bind fun S1_ =>
  some ((0 : Int32), S1_)
set_option maxRecDepth 20000 in
set_option maxHeartbeats 4000000 in
theorem eX13_refuse_in (n : Nat) (S : rvS) (a0 : Nat) (r : Int32) (S' : rvS) (h : fnX13_refuse n S a0 = some (r, S')) : rv_Ev mX13_refuse 0 0 [(0, .ref a0)] [] S (some (.int r)) S' := by
  unfold fnX13_refuse at h
  refine re_aloadn (pc := 0) 0 (by decide +kernel : decode cX13_refuse 0 = .ok (.aload_n 0, 1)) rfl ?_
  refine re_iconst (pc := 1) (1 : Int32) (by decide +kernel : decode cX13_refuse 1 = .ok (.iconst 1, 1)) (by decide) ?_
  obtain ⟨S1_, g2_, h⟩ := rv_b_e h
  refine re_pI (pc := 2) g2_ lfX13_99 rfl rfl rfl rfl (by decide +kernel : decode cX13_refuse 2 = .ok (.putfield 99, 3)) ?_
  refine re_iconst (pc := 5) (0 : Int32) (by decide +kernel : decode cX13_refuse 5 = .ok (.iconst 0, 1)) (by decide) ?_
  cases h
  exact re_iret (fun ty hty => by cases hty; rfl) (by decide +kernel : decode cX13_refuse 6 = .ok (.ireturn, 1))
theorem metX13_refuse (n : Nat) (S : rvS) (a0 : Nat) (r : Int32) (S' : rvS) (h : fnX13_refuse n S a0 = some (r, S')) : rv_Met yX13_refuse mX13_refuse 0 [.ref a0] S (some (.int r)) S' := rv_Met.of ⟨by decide +kernel, rfl, (fun z => by first | rfl | cases z), rfl⟩ (Nat.le_of_ble_eq_true rfl) rfl (eX13_refuse_in n S a0 r S' h)
noncomputable def cX13_come_3 (n : Nat) : Nat → rvS → Nat → Int32 → Int32 → Option rvS
  | 0, _, _, _, _ => none
  | k + 1, S, a0, x1, x2 =>
    if x2 < 0 then (
      some S)
    else (
      (rv_gR S 11 a0 1).bind fun a2_ =>
      (rv_gI S 11 a0 2).bind fun x4_ =>
      (rv_uI S a2_ x4_ (((x1.toUInt32 >>> (x2.toUInt32 &&& Int32.toUInt32 31)).toInt32) &&& (255 : Int32))).bind fun S6_ =>
      (rv_gI S6_ 11 a0 2).bind fun x8_ =>
      (rv_pI S6_ 11 a0 2 (x8_ + (1 : Int32))).bind fun S10_ =>
      rv_lt (x2 + (-8)) fun x12_ =>
      cX13_come_3 n k S10_ a0 x1 x12_)
set_option maxRecDepth 20000 in
set_option maxHeartbeats 4000000 in
theorem eX13_come_3 (n : Nat) : ∀ (k : Nat) (S : rvS) (a0 : Nat) (x1 : Int32) (x2 : Int32) (S' : rvS), cX13_come_3 n k S a0 x1 x2 = some S' → rv_Ev mX13_come 0 3 [(0, .ref a0), (1, .int x1), (2, .int x2)] [] S none S' := by
  intro k
  induction k with
  | zero => intro S a0 x1 x2 S' h; exact absurd h (by simp [cX13_come_3])
  | succ k ih =>
    intro S a0 x1 x2 S' h
    unfold cX13_come_3 at h
    refine re_iloadn (pc := 3) 2 (by decide +kernel : decode cX13_come 3 = .ok (.iload_n 2, 1)) rfl ?_
    rcases rv_if_e h with ⟨g1_, h⟩ | ⟨g1_, h⟩
    · refine re_if_lt_t (pc := 4) 39 (by decide +kernel : decode cX13_come 4 = .ok (.ifCond .lt 35, 3)) (by decide) g1_ ?_
      cases h
      exact re_vret (by decide +kernel : decode cX13_come 39 = .ok (.return_, 1))
    · refine re_if_lt_f (pc := 4) 39 (by decide +kernel : decode cX13_come 4 = .ok (.ifCond .lt 35, 3)) (by decide) g1_ ?_
      refine re_aloadn (pc := 7) 0 (by decide +kernel : decode cX13_come 7 = .ok (.aload_n 0, 1)) rfl ?_
      obtain ⟨a2_, g3_, h⟩ := rv_b_e h
      refine re_gR (pc := 8) g3_ lfX13_7 rfl (by decide +kernel : decode cX13_come 8 = .ok (.getfield 7, 3)) ?_
      refine re_aloadn (pc := 11) 0 (by decide +kernel : decode cX13_come 11 = .ok (.aload_n 0, 1)) rfl ?_
      obtain ⟨x4_, g5_, h⟩ := rv_b_e h
      refine re_gI (pc := 12) g5_ lfX13_102 rfl (by decide +kernel : decode cX13_come 12 = .ok (.getfield 102, 3)) ?_
      refine re_iloadn (pc := 15) 1 (by decide +kernel : decode cX13_come 15 = .ok (.iload_n 1, 1)) rfl ?_
      refine re_iloadn (pc := 16) 2 (by decide +kernel : decode cX13_come 16 = .ok (.iload_n 2, 1)) rfl ?_
      refine re_iushr (pc := 17) (by decide +kernel : decode cX13_come 17 = .ok (.iushr, 1)) ?_
      refine re_sipush (pc := 18) (255 : Int32) (by decide +kernel : decode cX13_come 18 = .ok (.sipush 255, 3)) (by decide) ?_
      refine re_iand (pc := 21) (by decide +kernel : decode cX13_come 21 = .ok (.iand, 1)) ?_
      obtain ⟨S6_, g7_, h⟩ := rv_b_e h
      refine re_uI (pc := 22) g7_ (by decide +kernel : decode cX13_come 22 = .ok (.iastore, 1)) ?_
      refine re_aloadn (pc := 23) 0 (by decide +kernel : decode cX13_come 23 = .ok (.aload_n 0, 1)) rfl ?_
      refine re_dup (pc := 24) (by decide +kernel : decode cX13_come 24 = .ok (.dup, 1)) rfl ?_
      obtain ⟨x8_, g9_, h⟩ := rv_b_e h
      refine re_gI (pc := 25) g9_ lfX13_102 rfl (by decide +kernel : decode cX13_come 25 = .ok (.getfield 102, 3)) ?_
      refine re_iconst (pc := 28) (1 : Int32) (by decide +kernel : decode cX13_come 28 = .ok (.iconst 1, 1)) (by decide) ?_
      refine re_iadd (pc := 29) (by decide +kernel : decode cX13_come 29 = .ok (.iadd, 1)) ?_
      obtain ⟨S10_, g11_, h⟩ := rv_b_e h
      refine re_pI (pc := 30) g11_ lfX13_102 rfl rfl rfl rfl (by decide +kernel : decode cX13_come 30 = .ok (.putfield 102, 3)) ?_
      obtain ⟨x12_, g13_, h⟩ := rv_lt_e h
      refine re_iinc (pc := 33) 2 x12_ (lv1 := [(2, .int x12_), (0, .ref a0), (1, .int x1)]) (by decide +kernel : decode cX13_come 33 = .ok (.iinc 2 (-8), 3)) rfl g13_ (by decide) rfl ?_
      refine re_goto (pc := 36) 3 (by decide +kernel : decode cX13_come 36 = .ok (.goto (-33), 3)) (by decide) ?_
      refine re_sub [1, 2, 0] (lv1 := [(0, .ref a0), (1, .int x1), (2, .int x12_)]) rfl ?_
      exact ih S10_ a0 x1 x12_ _ h
noncomputable def fnX13_come (n : Nat) (S : rvS) (a0 : Nat) (x1 : Int32) : Option rvS :=
  cX13_come_3 n n S a0 x1 (24 : Int32)
set_option maxRecDepth 20000 in
set_option maxHeartbeats 4000000 in
theorem eX13_come_in (n : Nat) (S : rvS) (a0 : Nat) (x1 : Int32) (S' : rvS) (h : fnX13_come n S a0 x1 = some S') : rv_Ev mX13_come 0 0 [(0, .ref a0), (1, .int x1)] [] S none S' := by
  unfold fnX13_come at h
  refine re_bipush (pc := 0) (24 : Int32) (by decide +kernel : decode cX13_come 0 = .ok (.bipush 24, 2)) (by decide) ?_
  refine re_istoren (pc := 2) (lv1 := [(2, .int (24 : Int32)), (0, .ref a0), (1, .int x1)]) (by decide +kernel : decode cX13_come 2 = .ok (.istore_n 2, 1)) rfl (by decide) rfl ?_
  refine re_sub [1, 2, 0] (lv1 := [(0, .ref a0), (1, .int x1), (2, .int (24 : Int32))]) rfl ?_
  exact eX13_come_3 n n S a0 x1 (24 : Int32) _ h
theorem metX13_come (n : Nat) (S : rvS) (a0 : Nat) (x1 : Int32) (S' : rvS) (h : fnX13_come n S a0 x1 = some S') : rv_Met yX13_come mX13_come 0 [.ref a0, .int x1] S none S' := rv_Met.of ⟨by decide +kernel, rfl, (fun z => by first | rfl | cases z), rfl⟩ (Nat.le_of_ble_eq_true rfl) rfl (eX13_come_in n S a0 x1 S' h)
noncomputable def fnX13_feed (n : Nat) (S : rvS) (a0 : Nat) (x1 : Int32) (x2 : Int32) (x3 : Int32) (x4 : Int32) (x5 : Int32) : Option (Int32 × rvS) :=
  (rv_pI S 11 a0 0 (0 : Int32)).bind fun S1_ =>
  (rv_gI S1_ 11 a0 2).bind fun x3_ =>
  if (x3_ + (20 : Int32)) ≤ (940 : Int32) then (
    (rv_ck S1_ 11 a0).bind fun u6_ =>
    (fnX13_come n S1_ a0 x1).bind fun S9_ =>
    (rv_ck S9_ 11 a0).bind fun u12_ =>
    (fnX13_come n S9_ a0 x2).bind fun S15_ =>
    (rv_ck S15_ 11 a0).bind fun u18_ =>
    (fnX13_come n S15_ a0 x3).bind fun S21_ =>
    (rv_ck S21_ 11 a0).bind fun u24_ =>
    (fnX13_come n S21_ a0 x4).bind fun S27_ =>
    (rv_ck S27_ 11 a0).bind fun u30_ =>
    (fnX13_come n S27_ a0 x5).bind fun S33_ =>
    (rv_gI S33_ 11 a0 2).bind fun x36_ =>
    some (x36_, S33_))
  else (
    some ((-1 : Int32), S1_))
set_option maxRecDepth 20000 in
set_option maxHeartbeats 4000000 in
theorem eX13_feed_in (n : Nat) (S : rvS) (a0 : Nat) (x1 : Int32) (x2 : Int32) (x3 : Int32) (x4 : Int32) (x5 : Int32) (r : Int32) (S' : rvS) (h : fnX13_feed n S a0 x1 x2 x3 x4 x5 = some (r, S')) : rv_Ev mX13_feed 1 0 [(0, .ref a0), (1, .int x1), (2, .int x2), (3, .int x3), (4, .int x4), (5, .int x5)] [] S (some (.int r)) S' := by
  unfold fnX13_feed at h
  refine re_aloadn (pc := 0) 0 (by decide +kernel : decode cX13_feed 0 = .ok (.aload_n 0, 1)) rfl ?_
  refine re_iconst (pc := 1) (0 : Int32) (by decide +kernel : decode cX13_feed 1 = .ok (.iconst 0, 1)) (by decide) ?_
  obtain ⟨S1_, g2_, h⟩ := rv_b_e h
  refine re_pI (pc := 2) g2_ lfX13_99 rfl rfl rfl rfl (by decide +kernel : decode cX13_feed 2 = .ok (.putfield 99, 3)) ?_
  refine re_aloadn (pc := 5) 0 (by decide +kernel : decode cX13_feed 5 = .ok (.aload_n 0, 1)) rfl ?_
  obtain ⟨x3_, g4_, h⟩ := rv_b_e h
  refine re_gI (pc := 6) g4_ lfX13_102 rfl (by decide +kernel : decode cX13_feed 6 = .ok (.getfield 102, 3)) ?_
  refine re_bipush (pc := 9) (20 : Int32) (by decide +kernel : decode cX13_feed 9 = .ok (.bipush 20, 2)) (by decide) ?_
  refine re_iadd (pc := 11) (by decide +kernel : decode cX13_feed 11 = .ok (.iadd, 1)) ?_
  refine re_sipush (pc := 12) (940 : Int32) (by decide +kernel : decode cX13_feed 12 = .ok (.sipush 940, 3)) (by decide) ?_
  rcases rv_if_e h with ⟨g5_, h⟩ | ⟨g5_, h⟩
  · refine re_icmp_le_t (pc := 15) 20 (by decide +kernel : decode cX13_feed 15 = .ok (.if_icmp .le 5, 3)) (by decide) g5_ ?_
    refine re_aloadn (pc := 20) 0 (by decide +kernel : decode cX13_feed 20 = .ok (.aload_n 0, 1)) rfl ?_
    refine re_iloadn (pc := 21) 1 (by decide +kernel : decode cX13_feed 21 = .ok (.iload_n 1, 1)) rfl ?_
    obtain ⟨u6_, g7_, h⟩ := rv_b_e h
    obtain ⟨S9_, g10_, h⟩ := rv_b_e h
    have m8_ := metX13_come n S1_ a0 x1 _ g10_
    have z11_ : rv_same S1_ S9_ := m8_.sh rfl
    refine re_cV (pc := 22) [.int x1] m8_ (rv_okl.k z11_) (rv_up.sh z11_) (by decide) (rv_ck_e g7_) ⟨by decide, rfl⟩ (Nat.le_of_ble_eq_true rfl) lVX13_105 rfl (by decide +kernel : decode cX13_feed 22 = .ok (.invokevirtual 105, 3)) ?_
    refine re_aloadn (pc := 25) 0 (by decide +kernel : decode cX13_feed 25 = .ok (.aload_n 0, 1)) rfl ?_
    refine re_iloadn (pc := 26) 2 (by decide +kernel : decode cX13_feed 26 = .ok (.iload_n 2, 1)) rfl ?_
    obtain ⟨u12_, g13_, h⟩ := rv_b_e h
    obtain ⟨S15_, g16_, h⟩ := rv_b_e h
    have m14_ := metX13_come n S9_ a0 x2 _ g16_
    have z17_ : rv_same S9_ S15_ := m14_.sh rfl
    refine re_cV (pc := 27) [.int x2] m14_ (rv_okl.k z17_) (rv_up.sh z17_) (by decide) (rv_ck_e g13_) ⟨by decide, rfl⟩ (Nat.le_of_ble_eq_true rfl) lVX13_105 rfl (by decide +kernel : decode cX13_feed 27 = .ok (.invokevirtual 105, 3)) ?_
    refine re_aloadn (pc := 30) 0 (by decide +kernel : decode cX13_feed 30 = .ok (.aload_n 0, 1)) rfl ?_
    refine re_iloadn (pc := 31) 3 (by decide +kernel : decode cX13_feed 31 = .ok (.iload_n 3, 1)) rfl ?_
    obtain ⟨u18_, g19_, h⟩ := rv_b_e h
    obtain ⟨S21_, g22_, h⟩ := rv_b_e h
    have m20_ := metX13_come n S15_ a0 x3 _ g22_
    have z23_ : rv_same S15_ S21_ := m20_.sh rfl
    refine re_cV (pc := 32) [.int x3] m20_ (rv_okl.k z23_) (rv_up.sh z23_) (by decide) (rv_ck_e g19_) ⟨by decide, rfl⟩ (Nat.le_of_ble_eq_true rfl) lVX13_105 rfl (by decide +kernel : decode cX13_feed 32 = .ok (.invokevirtual 105, 3)) ?_
    refine re_aloadn (pc := 35) 0 (by decide +kernel : decode cX13_feed 35 = .ok (.aload_n 0, 1)) rfl ?_
    refine re_iload (pc := 36) 4 (by decide +kernel : decode cX13_feed 36 = .ok (.iload 4, 2)) rfl ?_
    obtain ⟨u24_, g25_, h⟩ := rv_b_e h
    obtain ⟨S27_, g28_, h⟩ := rv_b_e h
    have m26_ := metX13_come n S21_ a0 x4 _ g28_
    have z29_ : rv_same S21_ S27_ := m26_.sh rfl
    refine re_cV (pc := 38) [.int x4] m26_ (rv_okl.k z29_) (rv_up.sh z29_) (by decide) (rv_ck_e g25_) ⟨by decide, rfl⟩ (Nat.le_of_ble_eq_true rfl) lVX13_105 rfl (by decide +kernel : decode cX13_feed 38 = .ok (.invokevirtual 105, 3)) ?_
    refine re_aloadn (pc := 41) 0 (by decide +kernel : decode cX13_feed 41 = .ok (.aload_n 0, 1)) rfl ?_
    refine re_iload (pc := 42) 5 (by decide +kernel : decode cX13_feed 42 = .ok (.iload 5, 2)) rfl ?_
    obtain ⟨u30_, g31_, h⟩ := rv_b_e h
    obtain ⟨S33_, g34_, h⟩ := rv_b_e h
    have m32_ := metX13_come n S27_ a0 x5 _ g34_
    have z35_ : rv_same S27_ S33_ := m32_.sh rfl
    refine re_cV (pc := 44) [.int x5] m32_ (rv_okl.k z35_) (rv_up.sh z35_) (by decide) (rv_ck_e g31_) ⟨by decide, rfl⟩ (Nat.le_of_ble_eq_true rfl) lVX13_105 rfl (by decide +kernel : decode cX13_feed 44 = .ok (.invokevirtual 105, 3)) ?_
    refine re_aloadn (pc := 47) 0 (by decide +kernel : decode cX13_feed 47 = .ok (.aload_n 0, 1)) rfl ?_
    obtain ⟨x36_, g37_, h⟩ := rv_b_e h
    refine re_gI (pc := 48) g37_ lfX13_102 rfl (by decide +kernel : decode cX13_feed 48 = .ok (.getfield 102, 3)) ?_
    cases h
    exact re_iret (fun ty hty => by cases hty; rfl) (by decide +kernel : decode cX13_feed 51 = .ok (.ireturn, 1))
  · refine re_icmp_le_f (pc := 15) 20 (by decide +kernel : decode cX13_feed 15 = .ok (.if_icmp .le 5, 3)) (by decide) g5_ ?_
    refine re_iconst (pc := 18) (-1 : Int32) (by decide +kernel : decode cX13_feed 18 = .ok (.iconst (-1), 1)) (by decide) ?_
    cases h
    exact re_iret (fun ty hty => by cases hty; rfl) (by decide +kernel : decode cX13_feed 19 = .ok (.ireturn, 1))
theorem metX13_feed (n : Nat) (S : rvS) (a0 : Nat) (x1 : Int32) (x2 : Int32) (x3 : Int32) (x4 : Int32) (x5 : Int32) (r : Int32) (S' : rvS) (h : fnX13_feed n S a0 x1 x2 x3 x4 x5 = some (r, S')) : rv_Met yX13_feed mX13_feed 1 [.ref a0, .int x1, .int x2, .int x3, .int x4, .int x5] S (some (.int r)) S' := rv_Met.of ⟨by decide +kernel, rfl, (fun z => by first | rfl | cases z), rfl⟩ (Nat.le_of_ble_eq_true rfl) rfl (eX13_feed_in n S a0 x1 x2 x3 x4 x5 r S' h)
noncomputable def fnX13_end (n : Nat) (S : rvS) (a0 : Nat) (x1 : Int32) : Option (Int32 × rvS) :=
  (rv_pI S 11 a0 0 (0 : Int32)).bind fun S1_ =>
  if x1 < 0 then (
    some ((0 : Int32), S1_))
  else (
    (rv_gI S1_ 11 a0 2).bind fun x4_ =>
    if x1 ≤ x4_ then (
      (rv_pI S1_ 11 a0 2 x1).bind fun S7_ =>
      some ((1 : Int32), S7_))
    else (
      some ((0 : Int32), S1_)))
set_option maxRecDepth 20000 in
set_option maxHeartbeats 4000000 in
theorem eX13_end_in (n : Nat) (S : rvS) (a0 : Nat) (x1 : Int32) (r : Int32) (S' : rvS) (h : fnX13_end n S a0 x1 = some (r, S')) : rv_Ev mX13_end 0 0 [(0, .ref a0), (1, .int x1)] [] S (some (.int r)) S' := by
  unfold fnX13_end at h
  refine re_aloadn (pc := 0) 0 (by decide +kernel : decode cX13_end 0 = .ok (.aload_n 0, 1)) rfl ?_
  refine re_iconst (pc := 1) (0 : Int32) (by decide +kernel : decode cX13_end 1 = .ok (.iconst 0, 1)) (by decide) ?_
  obtain ⟨S1_, g2_, h⟩ := rv_b_e h
  refine re_pI (pc := 2) g2_ lfX13_99 rfl rfl rfl rfl (by decide +kernel : decode cX13_end 2 = .ok (.putfield 99, 3)) ?_
  refine re_iloadn (pc := 5) 1 (by decide +kernel : decode cX13_end 5 = .ok (.iload_n 1, 1)) rfl ?_
  rcases rv_if_e h with ⟨g3_, h⟩ | ⟨g3_, h⟩
  · refine re_if_lt_t (pc := 6) 17 (by decide +kernel : decode cX13_end 6 = .ok (.ifCond .lt 11, 3)) (by decide) g3_ ?_
    refine re_iconst (pc := 17) (0 : Int32) (by decide +kernel : decode cX13_end 17 = .ok (.iconst 0, 1)) (by decide) ?_
    cases h
    exact re_iret (fun ty hty => by cases hty; rfl) (by decide +kernel : decode cX13_end 18 = .ok (.ireturn, 1))
  · refine re_if_lt_f (pc := 6) 17 (by decide +kernel : decode cX13_end 6 = .ok (.ifCond .lt 11, 3)) (by decide) g3_ ?_
    refine re_iloadn (pc := 9) 1 (by decide +kernel : decode cX13_end 9 = .ok (.iload_n 1, 1)) rfl ?_
    refine re_aloadn (pc := 10) 0 (by decide +kernel : decode cX13_end 10 = .ok (.aload_n 0, 1)) rfl ?_
    obtain ⟨x4_, g5_, h⟩ := rv_b_e h
    refine re_gI (pc := 11) g5_ lfX13_102 rfl (by decide +kernel : decode cX13_end 11 = .ok (.getfield 102, 3)) ?_
    rcases rv_if_e h with ⟨g6_, h⟩ | ⟨g6_, h⟩
    · refine re_icmp_le_t (pc := 14) 19 (by decide +kernel : decode cX13_end 14 = .ok (.if_icmp .le 5, 3)) (by decide) g6_ ?_
      refine re_aloadn (pc := 19) 0 (by decide +kernel : decode cX13_end 19 = .ok (.aload_n 0, 1)) rfl ?_
      refine re_iloadn (pc := 20) 1 (by decide +kernel : decode cX13_end 20 = .ok (.iload_n 1, 1)) rfl ?_
      obtain ⟨S7_, g8_, h⟩ := rv_b_e h
      refine re_pI (pc := 21) g8_ lfX13_102 rfl rfl rfl rfl (by decide +kernel : decode cX13_end 21 = .ok (.putfield 102, 3)) ?_
      refine re_iconst (pc := 24) (1 : Int32) (by decide +kernel : decode cX13_end 24 = .ok (.iconst 1, 1)) (by decide) ?_
      cases h
      exact re_iret (fun ty hty => by cases hty; rfl) (by decide +kernel : decode cX13_end 25 = .ok (.ireturn, 1))
    · refine re_icmp_le_f (pc := 14) 19 (by decide +kernel : decode cX13_end 14 = .ok (.if_icmp .le 5, 3)) (by decide) g6_ ?_
      refine re_iconst (pc := 17) (0 : Int32) (by decide +kernel : decode cX13_end 17 = .ok (.iconst 0, 1)) (by decide) ?_
      cases h
      exact re_iret (fun ty hty => by cases hty; rfl) (by decide +kernel : decode cX13_end 18 = .ok (.ireturn, 1))
theorem metX13_end (n : Nat) (S : rvS) (a0 : Nat) (x1 : Int32) (r : Int32) (S' : rvS) (h : fnX13_end n S a0 x1 = some (r, S')) : rv_Met yX13_end mX13_end 0 [.ref a0, .int x1] S (some (.int r)) S' := rv_Met.of ⟨by decide +kernel, rfl, (fun z => by first | rfl | cases z), rfl⟩ (Nat.le_of_ble_eq_true rfl) rfl (eX13_end_in n S a0 x1 r S' h)
noncomputable def fnX13_take (n : Nat) (S : rvS) (a0 : Nat) : Option (Int32 × rvS) :=
  (rv_gI S 11 a0 2).bind fun x1_ =>
  (rv_pI S 11 a0 2 (0 : Int32)).bind fun S3_ =>
  some (x1_, S3_)
set_option maxRecDepth 20000 in
set_option maxHeartbeats 4000000 in
theorem eX13_take_in (n : Nat) (S : rvS) (a0 : Nat) (r : Int32) (S' : rvS) (h : fnX13_take n S a0 = some (r, S')) : rv_Ev mX13_take 0 0 [(0, .ref a0)] [] S (some (.int r)) S' := by
  unfold fnX13_take at h
  refine re_aloadn (pc := 0) 0 (by decide +kernel : decode cX13_take 0 = .ok (.aload_n 0, 1)) rfl ?_
  obtain ⟨x1_, g2_, h⟩ := rv_b_e h
  refine re_gI (pc := 1) g2_ lfX13_102 rfl (by decide +kernel : decode cX13_take 1 = .ok (.getfield 102, 3)) ?_
  refine re_istoren (pc := 4) (lv1 := [(1, .int x1_), (0, .ref a0)]) (by decide +kernel : decode cX13_take 4 = .ok (.istore_n 1, 1)) rfl (by decide) rfl ?_
  refine re_aloadn (pc := 5) 1 (by decide +kernel : decode cX13_take 5 = .ok (.aload_n 0, 1)) rfl ?_
  refine re_iconst (pc := 6) (0 : Int32) (by decide +kernel : decode cX13_take 6 = .ok (.iconst 0, 1)) (by decide) ?_
  obtain ⟨S3_, g4_, h⟩ := rv_b_e h
  refine re_pI (pc := 7) g4_ lfX13_102 rfl rfl rfl rfl (by decide +kernel : decode cX13_take 7 = .ok (.putfield 102, 3)) ?_
  refine re_iloadn (pc := 10) 0 (by decide +kernel : decode cX13_take 10 = .ok (.iload_n 1, 1)) rfl ?_
  cases h
  exact re_iret (fun ty hty => by cases hty; rfl) (by decide +kernel : decode cX13_take 11 = .ok (.ireturn, 1))
theorem metX13_take (n : Nat) (S : rvS) (a0 : Nat) (r : Int32) (S' : rvS) (h : fnX13_take n S a0 = some (r, S')) : rv_Met yX13_take mX13_take 0 [.ref a0] S (some (.int r)) S' := rv_Met.of ⟨by decide +kernel, rfl, (fun z => by first | rfl | cases z), rfl⟩ (Nat.le_of_ble_eq_true rfl) rfl (eX13_take_in n S a0 r S' h)
noncomputable def fnX13_isIn (n : Nat) (S : rvS) (x0 : Int32) (x1 : Int32) (x2 : Int32) : Option Int32 :=
  if x0 < x1 then (
    some (0 : Int32))
  else (
    if x2 < x0 then (
      some (0 : Int32))
    else (
      some (1 : Int32)))
set_option maxRecDepth 20000 in
set_option maxHeartbeats 4000000 in
theorem eX13_isIn_in (n : Nat) (S : rvS) (x0 : Int32) (x1 : Int32) (x2 : Int32) (r : Int32) (h : fnX13_isIn n S x0 x1 x2 = some r) : rv_Ev mX13_isIn 0 0 [(0, .int x0), (1, .int x1), (2, .int x2)] [] S (some (.int r)) S := by
  unfold fnX13_isIn at h
  refine re_iloadn (pc := 0) 0 (by decide +kernel : decode cX13_isIn 0 = .ok (.iload_n 0, 1)) rfl ?_
  refine re_iloadn (pc := 1) 1 (by decide +kernel : decode cX13_isIn 1 = .ok (.iload_n 1, 1)) rfl ?_
  rcases rv_if_e h with ⟨g1_, h⟩ | ⟨g1_, h⟩
  · refine re_icmp_lt_t (pc := 2) 14 (by decide +kernel : decode cX13_isIn 2 = .ok (.if_icmp .lt 12, 3)) (by decide) g1_ ?_
    refine re_iconst (pc := 14) (0 : Int32) (by decide +kernel : decode cX13_isIn 14 = .ok (.iconst 0, 1)) (by decide) ?_
    cases h
    exact re_iret (fun ty hty => by cases hty; rfl) (by decide +kernel : decode cX13_isIn 15 = .ok (.ireturn, 1))
  · refine re_icmp_lt_f (pc := 2) 14 (by decide +kernel : decode cX13_isIn 2 = .ok (.if_icmp .lt 12, 3)) (by decide) g1_ ?_
    refine re_iloadn (pc := 5) 0 (by decide +kernel : decode cX13_isIn 5 = .ok (.iload_n 0, 1)) rfl ?_
    refine re_iloadn (pc := 6) 2 (by decide +kernel : decode cX13_isIn 6 = .ok (.iload_n 2, 1)) rfl ?_
    rcases rv_if_e h with ⟨g2_, h⟩ | ⟨g2_, h⟩
    · refine re_icmp_gt_t (pc := 7) 14 (by decide +kernel : decode cX13_isIn 7 = .ok (.if_icmp .gt 7, 3)) (by decide) g2_ ?_
      refine re_iconst (pc := 14) (0 : Int32) (by decide +kernel : decode cX13_isIn 14 = .ok (.iconst 0, 1)) (by decide) ?_
      cases h
      exact re_iret (fun ty hty => by cases hty; rfl) (by decide +kernel : decode cX13_isIn 15 = .ok (.ireturn, 1))
    · refine re_icmp_gt_f (pc := 7) 14 (by decide +kernel : decode cX13_isIn 7 = .ok (.if_icmp .gt 7, 3)) (by decide) g2_ ?_
      refine re_iconst (pc := 10) (1 : Int32) (by decide +kernel : decode cX13_isIn 10 = .ok (.iconst 1, 1)) (by decide) ?_
      refine re_goto (pc := 11) 15 (by decide +kernel : decode cX13_isIn 11 = .ok (.goto 4, 3)) (by decide) ?_
      cases h
      exact re_iret (fun ty hty => by cases hty; rfl) (by decide +kernel : decode cX13_isIn 15 = .ok (.ireturn, 1))
theorem metX13_isIn (n : Nat) (S : rvS) (x0 : Int32) (x1 : Int32) (x2 : Int32) (r : Int32) (h : fnX13_isIn n S x0 x1 x2 = some r) : rv_Met yX13_isIn mX13_isIn 0 [.int x0, .int x1, .int x2] S (some (.int r)) S := rv_Met.of ⟨by decide +kernel, rfl, (fun z => by first | rfl | cases z), rfl⟩ (Nat.le_of_ble_eq_true rfl) rfl (eX13_isIn_in n S x0 x1 x2 r h)
noncomputable def fnX13_has (n : Nat) (S : rvS) (x0 : Int32) (x1 : Int32) : Option Int32 :=
  if ((x0 >>> (x1 &&& 31)) &&& (1 : Int32)) = (1 : Int32) then (
    some (1 : Int32))
  else (
    some (0 : Int32))
set_option maxRecDepth 20000 in
set_option maxHeartbeats 4000000 in
theorem eX13_has_in (n : Nat) (S : rvS) (x0 : Int32) (x1 : Int32) (r : Int32) (h : fnX13_has n S x0 x1 = some r) : rv_Ev mX13_has 0 0 [(0, .int x0), (1, .int x1)] [] S (some (.int r)) S := by
  unfold fnX13_has at h
  refine re_iloadn (pc := 0) 0 (by decide +kernel : decode cX13_has 0 = .ok (.iload_n 0, 1)) rfl ?_
  refine re_iloadn (pc := 1) 1 (by decide +kernel : decode cX13_has 1 = .ok (.iload_n 1, 1)) rfl ?_
  refine re_ishr (pc := 2) (by decide +kernel : decode cX13_has 2 = .ok (.ishr, 1)) ?_
  refine re_iconst (pc := 3) (1 : Int32) (by decide +kernel : decode cX13_has 3 = .ok (.iconst 1, 1)) (by decide) ?_
  refine re_iand (pc := 4) (by decide +kernel : decode cX13_has 4 = .ok (.iand, 1)) ?_
  refine re_iconst (pc := 5) (1 : Int32) (by decide +kernel : decode cX13_has 5 = .ok (.iconst 1, 1)) (by decide) ?_
  rcases rv_if_e h with ⟨g1_, h⟩ | ⟨g1_, h⟩
  · refine re_icmp_ne_f (pc := 6) 13 (by decide +kernel : decode cX13_has 6 = .ok (.if_icmp .ne 7, 3)) (by decide) g1_ ?_
    refine re_iconst (pc := 9) (1 : Int32) (by decide +kernel : decode cX13_has 9 = .ok (.iconst 1, 1)) (by decide) ?_
    refine re_goto (pc := 10) 14 (by decide +kernel : decode cX13_has 10 = .ok (.goto 4, 3)) (by decide) ?_
    cases h
    exact re_iret (fun ty hty => by cases hty; rfl) (by decide +kernel : decode cX13_has 14 = .ok (.ireturn, 1))
  · refine re_icmp_ne_t (pc := 6) 13 (by decide +kernel : decode cX13_has 6 = .ok (.if_icmp .ne 7, 3)) (by decide) g1_ ?_
    refine re_iconst (pc := 13) (0 : Int32) (by decide +kernel : decode cX13_has 13 = .ok (.iconst 0, 1)) (by decide) ?_
    cases h
    exact re_iret (fun ty hty => by cases hty; rfl) (by decide +kernel : decode cX13_has 14 = .ok (.ireturn, 1))
theorem metX13_has (n : Nat) (S : rvS) (x0 : Int32) (x1 : Int32) (r : Int32) (h : fnX13_has n S x0 x1 = some r) : rv_Met yX13_has mX13_has 0 [.int x0, .int x1] S (some (.int r)) S := rv_Met.of ⟨by decide +kernel, rfl, (fun z => by first | rfl | cases z), rfl⟩ (Nat.le_of_ble_eq_true rfl) rfl (eX13_has_in n S x0 x1 r h)
noncomputable def cX13_bits_4 (n : Nat) (S : rvS) : Nat → Int32 → Int32 → Option Int32
  | 0, _, _ => none
  | k + 1, x1, x2 =>
    if x2 = 0 then (
      some x1)
    else (
      rv_lt (x1 + (1)) fun x2_ =>
      rv_lt (x2 &&& (x2 - (1 : Int32))) fun x4_ =>
      cX13_bits_4 n S k x2_ x4_)
set_option maxRecDepth 20000 in
set_option maxHeartbeats 4000000 in
theorem eX13_bits_4 (n : Nat) (S : rvS) : ∀ (k : Nat) (x1 : Int32) (x2 : Int32) (r : Int32), cX13_bits_4 n S k x1 x2 = some r → rv_Ev mX13_bits 0 4 [(1, .int x1), (2, .int x2)] [] S (some (.int r)) S := by
  intro k
  induction k with
  | zero => intro x1 x2 r h; exact absurd h (by simp [cX13_bits_4])
  | succ k ih =>
    intro x1 x2 r h
    unfold cX13_bits_4 at h
    refine re_iloadn (pc := 4) 1 (by decide +kernel : decode cX13_bits 4 = .ok (.iload_n 2, 1)) rfl ?_
    rcases rv_if_e h with ⟨g1_, h⟩ | ⟨g1_, h⟩
    · refine re_if_eq_t (pc := 5) 20 (by decide +kernel : decode cX13_bits 5 = .ok (.ifCond .eq 15, 3)) (by decide) g1_ ?_
      refine re_iloadn (pc := 20) 0 (by decide +kernel : decode cX13_bits 20 = .ok (.iload_n 1, 1)) rfl ?_
      cases h
      exact re_iret (fun ty hty => by cases hty; rfl) (by decide +kernel : decode cX13_bits 21 = .ok (.ireturn, 1))
    · refine re_if_eq_f (pc := 5) 20 (by decide +kernel : decode cX13_bits 5 = .ok (.ifCond .eq 15, 3)) (by decide) g1_ ?_
      obtain ⟨x2_, g3_, h⟩ := rv_lt_e h
      refine re_iinc (pc := 8) 0 x2_ (lv1 := [(1, .int x2_), (2, .int x2)]) (by decide +kernel : decode cX13_bits 8 = .ok (.iinc 1 1, 3)) rfl g3_ (by decide) rfl ?_
      refine re_iloadn (pc := 11) 1 (by decide +kernel : decode cX13_bits 11 = .ok (.iload_n 2, 1)) rfl ?_
      refine re_iloadn (pc := 12) 1 (by decide +kernel : decode cX13_bits 12 = .ok (.iload_n 2, 1)) rfl ?_
      refine re_iconst (pc := 13) (1 : Int32) (by decide +kernel : decode cX13_bits 13 = .ok (.iconst 1, 1)) (by decide) ?_
      refine re_isub (pc := 14) (by decide +kernel : decode cX13_bits 14 = .ok (.isub, 1)) ?_
      refine re_iand (pc := 15) (by decide +kernel : decode cX13_bits 15 = .ok (.iand, 1)) ?_
      obtain ⟨x4_, g5_, h⟩ := rv_lt_e h
      refine re_nI (pc := 16) g5_ ?_
      refine re_istoren (pc := 16) (lv1 := [(2, .int x4_), (1, .int x2_)]) (by decide +kernel : decode cX13_bits 16 = .ok (.istore_n 2, 1)) rfl (by decide) rfl ?_
      refine re_goto (pc := 17) 4 (by decide +kernel : decode cX13_bits 17 = .ok (.goto (-13), 3)) (by decide) ?_
      refine re_sub [1, 0] (lv1 := [(1, .int x2_), (2, .int x4_)]) rfl ?_
      exact ih x2_ x4_ _ h
noncomputable def fnX13_bits (n : Nat) (S : rvS) (x0 : Int32) : Option Int32 :=
  cX13_bits_4 n S n (0 : Int32) x0
set_option maxRecDepth 20000 in
set_option maxHeartbeats 4000000 in
theorem eX13_bits_in (n : Nat) (S : rvS) (x0 : Int32) (r : Int32) (h : fnX13_bits n S x0 = some r) : rv_Ev mX13_bits 0 0 [(0, .int x0)] [] S (some (.int r)) S := by
  unfold fnX13_bits at h
  refine re_iconst (pc := 0) (0 : Int32) (by decide +kernel : decode cX13_bits 0 = .ok (.iconst 0, 1)) (by decide) ?_
  refine re_istoren (pc := 1) (lv1 := [(1, .int (0 : Int32)), (0, .int x0)]) (by decide +kernel : decode cX13_bits 1 = .ok (.istore_n 1, 1)) rfl (by decide) rfl ?_
  refine re_iloadn (pc := 2) 1 (by decide +kernel : decode cX13_bits 2 = .ok (.iload_n 0, 1)) rfl ?_
  refine re_istoren (pc := 3) (lv1 := [(2, .int x0), (1, .int (0 : Int32)), (0, .int x0)]) (by decide +kernel : decode cX13_bits 3 = .ok (.istore_n 2, 1)) rfl (by decide) rfl ?_
  refine re_sub [1, 0] (lv1 := [(1, .int (0 : Int32)), (2, .int x0)]) rfl ?_
  exact eX13_bits_4 n S n (0 : Int32) x0 _ h
theorem metX13_bits (n : Nat) (S : rvS) (x0 : Int32) (r : Int32) (h : fnX13_bits n S x0 = some r) : rv_Met yX13_bits mX13_bits 0 [.int x0] S (some (.int r)) S := rv_Met.of ⟨by decide +kernel, rfl, (fun z => by first | rfl | cases z), rfl⟩ (Nat.le_of_ble_eq_true rfl) rfl (eX13_bits_in n S x0 r h)
noncomputable def fnX13_tapeAt (n : Nat) (S : rvS) (a0 : Nat) (x1 : Int32) : Option Int32 :=
  (rv_gI S 11 a0 3).bind fun x1_ =>
  if x1_ ≤ x1 then (
    some (0 : Int32))
  else (
    (rv_gR S 11 a0 1).bind fun a4_ =>
    (rv_aI S 0 a4_ x1).bind fun x6_ =>
    some x6_)
set_option maxRecDepth 20000 in
set_option maxHeartbeats 4000000 in
theorem eX13_tapeAt_in (n : Nat) (S : rvS) (a0 : Nat) (x1 : Int32) (r : Int32) (h : fnX13_tapeAt n S a0 x1 = some r) : rv_Ev mX13_tapeAt 0 0 [(0, .ref a0), (1, .int x1)] [] S (some (.int r)) S := by
  unfold fnX13_tapeAt at h
  refine re_iloadn (pc := 0) 1 (by decide +kernel : decode cX13_tapeAt 0 = .ok (.iload_n 1, 1)) rfl ?_
  refine re_aloadn (pc := 1) 0 (by decide +kernel : decode cX13_tapeAt 1 = .ok (.aload_n 0, 1)) rfl ?_
  obtain ⟨x1_, g2_, h⟩ := rv_b_e h
  refine re_gI (pc := 2) g2_ lfX13_109 rfl (by decide +kernel : decode cX13_tapeAt 2 = .ok (.getfield 109, 3)) ?_
  rcases rv_if_e h with ⟨g3_, h⟩ | ⟨g3_, h⟩
  · refine re_icmp_ge_t (pc := 5) 17 (by decide +kernel : decode cX13_tapeAt 5 = .ok (.if_icmp .ge 12, 3)) (by decide) g3_ ?_
    refine re_iconst (pc := 17) (0 : Int32) (by decide +kernel : decode cX13_tapeAt 17 = .ok (.iconst 0, 1)) (by decide) ?_
    cases h
    exact re_iret (fun ty hty => by cases hty; rfl) (by decide +kernel : decode cX13_tapeAt 18 = .ok (.ireturn, 1))
  · refine re_icmp_ge_f (pc := 5) 17 (by decide +kernel : decode cX13_tapeAt 5 = .ok (.if_icmp .ge 12, 3)) (by decide) g3_ ?_
    refine re_aloadn (pc := 8) 0 (by decide +kernel : decode cX13_tapeAt 8 = .ok (.aload_n 0, 1)) rfl ?_
    obtain ⟨a4_, g5_, h⟩ := rv_b_e h
    refine re_gR (pc := 9) g5_ lfX13_7 rfl (by decide +kernel : decode cX13_tapeAt 9 = .ok (.getfield 7, 3)) ?_
    refine re_iloadn (pc := 12) 1 (by decide +kernel : decode cX13_tapeAt 12 = .ok (.iload_n 1, 1)) rfl ?_
    obtain ⟨x6_, g7_, h⟩ := rv_b_e h
    refine re_aI (pc := 13) g7_ (by decide +kernel : decode cX13_tapeAt 13 = .ok (.iaload, 1)) ?_
    refine re_goto (pc := 14) 18 (by decide +kernel : decode cX13_tapeAt 14 = .ok (.goto 4, 3)) (by decide) ?_
    cases h
    exact re_iret (fun ty hty => by cases hty; rfl) (by decide +kernel : decode cX13_tapeAt 18 = .ok (.ireturn, 1))
theorem metX13_tapeAt (n : Nat) (S : rvS) (a0 : Nat) (x1 : Int32) (r : Int32) (h : fnX13_tapeAt n S a0 x1 = some r) : rv_Met yX13_tapeAt mX13_tapeAt 0 [.ref a0, .int x1] S (some (.int r)) S := rv_Met.of ⟨by decide +kernel, rfl, (fun z => by first | rfl | cases z), rfl⟩ (Nat.le_of_ble_eq_true rfl) rfl (eX13_tapeAt_in n S a0 x1 r h)
noncomputable def fnX13_isDigit (n : Nat) (S : rvS) (x0 : Int32) : Option Int32 :=
  if x0 < (48 : Int32) then (
    some (0 : Int32))
  else (
    if (57 : Int32) < x0 then (
      some (0 : Int32))
    else (
      some (1 : Int32)))
set_option maxRecDepth 20000 in
set_option maxHeartbeats 4000000 in
theorem eX13_isDigit_in (n : Nat) (S : rvS) (x0 : Int32) (r : Int32) (h : fnX13_isDigit n S x0 = some r) : rv_Ev mX13_isDigit 0 0 [(0, .int x0)] [] S (some (.int r)) S := by
  unfold fnX13_isDigit at h
  refine re_iloadn (pc := 0) 0 (by decide +kernel : decode cX13_isDigit 0 = .ok (.iload_n 0, 1)) rfl ?_
  refine re_bipush (pc := 1) (48 : Int32) (by decide +kernel : decode cX13_isDigit 1 = .ok (.bipush 48, 2)) (by decide) ?_
  rcases rv_if_e h with ⟨g1_, h⟩ | ⟨g1_, h⟩
  · refine re_icmp_lt_t (pc := 3) 16 (by decide +kernel : decode cX13_isDigit 3 = .ok (.if_icmp .lt 13, 3)) (by decide) g1_ ?_
    refine re_iconst (pc := 16) (0 : Int32) (by decide +kernel : decode cX13_isDigit 16 = .ok (.iconst 0, 1)) (by decide) ?_
    cases h
    exact re_iret (fun ty hty => by cases hty; rfl) (by decide +kernel : decode cX13_isDigit 17 = .ok (.ireturn, 1))
  · refine re_icmp_lt_f (pc := 3) 16 (by decide +kernel : decode cX13_isDigit 3 = .ok (.if_icmp .lt 13, 3)) (by decide) g1_ ?_
    refine re_iloadn (pc := 6) 0 (by decide +kernel : decode cX13_isDigit 6 = .ok (.iload_n 0, 1)) rfl ?_
    refine re_bipush (pc := 7) (57 : Int32) (by decide +kernel : decode cX13_isDigit 7 = .ok (.bipush 57, 2)) (by decide) ?_
    rcases rv_if_e h with ⟨g2_, h⟩ | ⟨g2_, h⟩
    · refine re_icmp_gt_t (pc := 9) 16 (by decide +kernel : decode cX13_isDigit 9 = .ok (.if_icmp .gt 7, 3)) (by decide) g2_ ?_
      refine re_iconst (pc := 16) (0 : Int32) (by decide +kernel : decode cX13_isDigit 16 = .ok (.iconst 0, 1)) (by decide) ?_
      cases h
      exact re_iret (fun ty hty => by cases hty; rfl) (by decide +kernel : decode cX13_isDigit 17 = .ok (.ireturn, 1))
    · refine re_icmp_gt_f (pc := 9) 16 (by decide +kernel : decode cX13_isDigit 9 = .ok (.if_icmp .gt 7, 3)) (by decide) g2_ ?_
      refine re_iconst (pc := 12) (1 : Int32) (by decide +kernel : decode cX13_isDigit 12 = .ok (.iconst 1, 1)) (by decide) ?_
      refine re_goto (pc := 13) 17 (by decide +kernel : decode cX13_isDigit 13 = .ok (.goto 4, 3)) (by decide) ?_
      cases h
      exact re_iret (fun ty hty => by cases hty; rfl) (by decide +kernel : decode cX13_isDigit 17 = .ok (.ireturn, 1))
theorem metX13_isDigit (n : Nat) (S : rvS) (x0 : Int32) (r : Int32) (h : fnX13_isDigit n S x0 = some r) : rv_Met yX13_isDigit mX13_isDigit 0 [.int x0] S (some (.int r)) S := rv_Met.of ⟨by decide +kernel, rfl, (fun z => by first | rfl | cases z), rfl⟩ (Nat.le_of_ble_eq_true rfl) rfl (eX13_isDigit_in n S x0 r h)
noncomputable def fnX13_isLetter (n : Nat) (S : rvS) (x0 : Int32) : Option Int32 :=
  if x0 < (97 : Int32) then (
    some (0 : Int32))
  else (
    if (122 : Int32) < x0 then (
      some (0 : Int32))
    else (
      some (1 : Int32)))
set_option maxRecDepth 20000 in
set_option maxHeartbeats 4000000 in
theorem eX13_isLetter_in (n : Nat) (S : rvS) (x0 : Int32) (r : Int32) (h : fnX13_isLetter n S x0 = some r) : rv_Ev mX13_isLetter 0 0 [(0, .int x0)] [] S (some (.int r)) S := by
  unfold fnX13_isLetter at h
  refine re_iloadn (pc := 0) 0 (by decide +kernel : decode cX13_isLetter 0 = .ok (.iload_n 0, 1)) rfl ?_
  refine re_bipush (pc := 1) (97 : Int32) (by decide +kernel : decode cX13_isLetter 1 = .ok (.bipush 97, 2)) (by decide) ?_
  rcases rv_if_e h with ⟨g1_, h⟩ | ⟨g1_, h⟩
  · refine re_icmp_lt_t (pc := 3) 16 (by decide +kernel : decode cX13_isLetter 3 = .ok (.if_icmp .lt 13, 3)) (by decide) g1_ ?_
    refine re_iconst (pc := 16) (0 : Int32) (by decide +kernel : decode cX13_isLetter 16 = .ok (.iconst 0, 1)) (by decide) ?_
    cases h
    exact re_iret (fun ty hty => by cases hty; rfl) (by decide +kernel : decode cX13_isLetter 17 = .ok (.ireturn, 1))
  · refine re_icmp_lt_f (pc := 3) 16 (by decide +kernel : decode cX13_isLetter 3 = .ok (.if_icmp .lt 13, 3)) (by decide) g1_ ?_
    refine re_iloadn (pc := 6) 0 (by decide +kernel : decode cX13_isLetter 6 = .ok (.iload_n 0, 1)) rfl ?_
    refine re_bipush (pc := 7) (122 : Int32) (by decide +kernel : decode cX13_isLetter 7 = .ok (.bipush 122, 2)) (by decide) ?_
    rcases rv_if_e h with ⟨g2_, h⟩ | ⟨g2_, h⟩
    · refine re_icmp_gt_t (pc := 9) 16 (by decide +kernel : decode cX13_isLetter 9 = .ok (.if_icmp .gt 7, 3)) (by decide) g2_ ?_
      refine re_iconst (pc := 16) (0 : Int32) (by decide +kernel : decode cX13_isLetter 16 = .ok (.iconst 0, 1)) (by decide) ?_
      cases h
      exact re_iret (fun ty hty => by cases hty; rfl) (by decide +kernel : decode cX13_isLetter 17 = .ok (.ireturn, 1))
    · refine re_icmp_gt_f (pc := 9) 16 (by decide +kernel : decode cX13_isLetter 9 = .ok (.if_icmp .gt 7, 3)) (by decide) g2_ ?_
      refine re_iconst (pc := 12) (1 : Int32) (by decide +kernel : decode cX13_isLetter 12 = .ok (.iconst 1, 1)) (by decide) ?_
      refine re_goto (pc := 13) 17 (by decide +kernel : decode cX13_isLetter 13 = .ok (.goto 4, 3)) (by decide) ?_
      cases h
      exact re_iret (fun ty hty => by cases hty; rfl) (by decide +kernel : decode cX13_isLetter 17 = .ok (.ireturn, 1))
theorem metX13_isLetter (n : Nat) (S : rvS) (x0 : Int32) (r : Int32) (h : fnX13_isLetter n S x0 = some r) : rv_Met yX13_isLetter mX13_isLetter 0 [.int x0] S (some (.int r)) S := rv_Met.of ⟨by decide +kernel, rfl, (fun z => by first | rfl | cases z), rfl⟩ (Nat.le_of_ble_eq_true rfl) rfl (eX13_isLetter_in n S x0 r h)
noncomputable def cX13_go_39 (n : Nat) (K0 : Nat → rvS → Option rvS) (S : rvS) (a0 : Nat) : Option rvS :=
  (rv_gI S 11 a0 5).bind fun x1_ =>
  (rv_pI S 11 a0 5 (x1_ + (1 : Int32))).bind fun S3_ =>
  K0 a0 S3_
set_option maxRecDepth 20000 in
set_option maxHeartbeats 4000000 in
theorem eX13_go_39 (n : Nat) (K0 : Nat → rvS → Option rvS) (hK0 : ∀ (a0 : Nat) (S : rvS) (S' : rvS), K0 a0 S = some S' → rv_Ev mX13_go 1 0 [(0, .ref a0)] [] S none S') (S : rvS) (a0 : Nat) (S' : rvS) (h : cX13_go_39 n K0 S a0 = some S') : rv_Ev mX13_go 1 39 [(0, .ref a0)] [] S none S' := by
  unfold cX13_go_39 at h
  refine re_aloadn (pc := 39) 0 (by decide +kernel : decode cX13_go 39 = .ok (.aload_n 0, 1)) rfl ?_
  refine re_dup (pc := 40) (by decide +kernel : decode cX13_go 40 = .ok (.dup, 1)) rfl ?_
  obtain ⟨x1_, g2_, h⟩ := rv_b_e h
  refine re_gI (pc := 41) g2_ lfX13_112 rfl (by decide +kernel : decode cX13_go 41 = .ok (.getfield 112, 3)) ?_
  refine re_iconst (pc := 44) (1 : Int32) (by decide +kernel : decode cX13_go 44 = .ok (.iconst 1, 1)) (by decide) ?_
  refine re_iadd (pc := 45) (by decide +kernel : decode cX13_go 45 = .ok (.iadd, 1)) ?_
  obtain ⟨S3_, g4_, h⟩ := rv_b_e h
  refine re_pI (pc := 46) g4_ lfX13_112 rfl rfl rfl rfl (by decide +kernel : decode cX13_go 46 = .ok (.putfield 112, 3)) ?_
  refine re_goto (pc := 49) 0 (by decide +kernel : decode cX13_go 49 = .ok (.goto (-49), 3)) (by decide) ?_
  exact hK0 a0 S3_ _ h
noncomputable def cX13_go_179 (n : Nat) (S : rvS) (a0 : Nat) (x1 : Int32) (t0 : Nat) (t1 : Int32) : Option rvS :=
  (rv_pI S 11 t0 7 t1).bind fun S1_ =>
  (rv_pI S1_ 11 a0 9 x1).bind fun S3_ =>
  (rv_gI S3_ 11 a0 5).bind fun x5_ =>
  (rv_pI S3_ 11 a0 5 (x5_ + (1 : Int32))).bind fun S7_ =>
  some S7_
set_option maxRecDepth 20000 in
set_option maxHeartbeats 4000000 in
theorem eX13_go_179 (n : Nat) (S : rvS) (a0 : Nat) (x1 : Int32) (t0 : Nat) (t1 : Int32) (S' : rvS) (h : cX13_go_179 n S a0 x1 t0 t1 = some S') : rv_Ev mX13_go 1 179 [(0, .ref a0), (1, .int x1)] [.int t1, .ref t0] S none S' := by
  unfold cX13_go_179 at h
  obtain ⟨S1_, g2_, h⟩ := rv_b_e h
  refine re_pI (pc := 179) g2_ lfX13_121 rfl rfl rfl rfl (by decide +kernel : decode cX13_go 179 = .ok (.putfield 121, 3)) ?_
  refine re_aloadn (pc := 182) 0 (by decide +kernel : decode cX13_go 182 = .ok (.aload_n 0, 1)) rfl ?_
  refine re_iloadn (pc := 183) 1 (by decide +kernel : decode cX13_go 183 = .ok (.iload_n 1, 1)) rfl ?_
  obtain ⟨S3_, g4_, h⟩ := rv_b_e h
  refine re_pI (pc := 184) g4_ lfX13_131 rfl rfl rfl rfl (by decide +kernel : decode cX13_go 184 = .ok (.putfield 131, 3)) ?_
  refine re_aloadn (pc := 187) 0 (by decide +kernel : decode cX13_go 187 = .ok (.aload_n 0, 1)) rfl ?_
  refine re_dup (pc := 188) (by decide +kernel : decode cX13_go 188 = .ok (.dup, 1)) rfl ?_
  obtain ⟨x5_, g6_, h⟩ := rv_b_e h
  refine re_gI (pc := 189) g6_ lfX13_112 rfl (by decide +kernel : decode cX13_go 189 = .ok (.getfield 112, 3)) ?_
  refine re_iconst (pc := 192) (1 : Int32) (by decide +kernel : decode cX13_go 192 = .ok (.iconst 1, 1)) (by decide) ?_
  refine re_iadd (pc := 193) (by decide +kernel : decode cX13_go 193 = .ok (.iadd, 1)) ?_
  obtain ⟨S7_, g8_, h⟩ := rv_b_e h
  refine re_pI (pc := 194) g8_ lfX13_112 rfl rfl rfl rfl (by decide +kernel : decode cX13_go 194 = .ok (.putfield 112, 3)) ?_
  cases h
  exact re_vret (by decide +kernel : decode cX13_go 197 = .ok (.return_, 1))
noncomputable def cX13_go_174 (n : Nat) (S : rvS) (a0 : Nat) (x1 : Int32) (t0 : Nat) : Option rvS :=
  cX13_go_179 n S a0 x1 t0 (4 : Int32)
set_option maxRecDepth 20000 in
set_option maxHeartbeats 4000000 in
theorem eX13_go_174 (n : Nat) (S : rvS) (a0 : Nat) (x1 : Int32) (t0 : Nat) (S' : rvS) (h : cX13_go_174 n S a0 x1 t0 = some S') : rv_Ev mX13_go 1 174 [(0, .ref a0), (1, .int x1)] [.ref t0] S none S' := by
  unfold cX13_go_174 at h
  refine re_iconst (pc := 174) (4 : Int32) (by decide +kernel : decode cX13_go 174 = .ok (.iconst 4, 1)) (by decide) ?_
  refine re_goto (pc := 175) 179 (by decide +kernel : decode cX13_go 175 = .ok (.goto 4, 3)) (by decide) ?_
  exact eX13_go_179 n S a0 x1 t0 (4 : Int32) _ h
noncomputable def cX13_go_337 (n : Nat) (K215 : Nat → Int32 → Int32 → rvS → Option rvS) (S : rvS) (a0 : Nat) (x2 : Int32) (x3 : Int32) : Option rvS :=
  (rv_gI S 11 a0 5).bind fun x1_ =>
  (rv_pI S 11 a0 5 (x1_ + (1 : Int32))).bind fun S3_ =>
  K215 a0 x2 x3 S3_
set_option maxRecDepth 20000 in
set_option maxHeartbeats 4000000 in
theorem eX13_go_337 (n : Nat) (K215 : Nat → Int32 → Int32 → rvS → Option rvS) (hK215 : ∀ (a0 : Nat) (x2 : Int32) (x3 : Int32) (S : rvS) (S' : rvS), K215 a0 x2 x3 S = some S' → rv_Ev mX13_go 1 215 [(0, .ref a0), (2, .int x2), (3, .int x3)] [] S none S') (S : rvS) (a0 : Nat) (x2 : Int32) (x3 : Int32) (S' : rvS) (h : cX13_go_337 n K215 S a0 x2 x3 = some S') : rv_Ev mX13_go 1 337 [(0, .ref a0), (2, .int x2), (3, .int x3)] [] S none S' := by
  unfold cX13_go_337 at h
  refine re_aloadn (pc := 337) 0 (by decide +kernel : decode cX13_go 337 = .ok (.aload_n 0, 1)) rfl ?_
  refine re_dup (pc := 338) (by decide +kernel : decode cX13_go 338 = .ok (.dup, 1)) rfl ?_
  obtain ⟨x1_, g2_, h⟩ := rv_b_e h
  refine re_gI (pc := 339) g2_ lfX13_112 rfl (by decide +kernel : decode cX13_go 339 = .ok (.getfield 112, 3)) ?_
  refine re_iconst (pc := 342) (1 : Int32) (by decide +kernel : decode cX13_go 342 = .ok (.iconst 1, 1)) (by decide) ?_
  refine re_iadd (pc := 343) (by decide +kernel : decode cX13_go 343 = .ok (.iadd, 1)) ?_
  obtain ⟨S3_, g4_, h⟩ := rv_b_e h
  refine re_pI (pc := 344) g4_ lfX13_112 rfl rfl rfl rfl (by decide +kernel : decode cX13_go 344 = .ok (.putfield 112, 3)) ?_
  refine re_goto (pc := 347) 215 (by decide +kernel : decode cX13_go 347 = .ok (.goto (-132), 3)) (by decide) ?_
  exact hK215 a0 x2 x3 S3_ _ h
noncomputable def cX13_go_307 (n : Nat) (K215 : Nat → Int32 → Int32 → rvS → Option rvS) (S : rvS) (a0 : Nat) (x2 : Int32) (x3 : Int32) (x4 : Int32) : Option rvS :=
  (rv_gI S 11 a0 5).bind fun x1_ =>
  (rv_gI S 11 a0 6).bind fun x3_ =>
  if (3 : Int32) ≤ (x1_ - x3_) then (
    cX13_go_337 n K215 S a0 x2 x3)
  else (
    (rv_gI S 11 a0 8).bind fun x6_ =>
    (rv_pI S 11 a0 8 ((((10 : Int32) * x6_) + x4) - (48 : Int32))).bind fun S8_ =>
    cX13_go_337 n K215 S8_ a0 x2 x3)
set_option maxRecDepth 20000 in
set_option maxHeartbeats 4000000 in
theorem eX13_go_307 (n : Nat) (K215 : Nat → Int32 → Int32 → rvS → Option rvS) (hK215 : ∀ (a0 : Nat) (x2 : Int32) (x3 : Int32) (S : rvS) (S' : rvS), K215 a0 x2 x3 S = some S' → rv_Ev mX13_go 1 215 [(0, .ref a0), (2, .int x2), (3, .int x3)] [] S none S') (S : rvS) (a0 : Nat) (x2 : Int32) (x3 : Int32) (x4 : Int32) (S' : rvS) (h : cX13_go_307 n K215 S a0 x2 x3 x4 = some S') : rv_Ev mX13_go 1 307 [(0, .ref a0), (2, .int x2), (3, .int x3), (4, .int x4)] [] S none S' := by
  unfold cX13_go_307 at h
  refine re_aloadn (pc := 307) 0 (by decide +kernel : decode cX13_go 307 = .ok (.aload_n 0, 1)) rfl ?_
  obtain ⟨x1_, g2_, h⟩ := rv_b_e h
  refine re_gI (pc := 308) g2_ lfX13_112 rfl (by decide +kernel : decode cX13_go 308 = .ok (.getfield 112, 3)) ?_
  refine re_aloadn (pc := 311) 0 (by decide +kernel : decode cX13_go 311 = .ok (.aload_n 0, 1)) rfl ?_
  obtain ⟨x3_, g4_, h⟩ := rv_b_e h
  refine re_gI (pc := 312) g4_ lfX13_115 rfl (by decide +kernel : decode cX13_go 312 = .ok (.getfield 115, 3)) ?_
  refine re_isub (pc := 315) (by decide +kernel : decode cX13_go 315 = .ok (.isub, 1)) ?_
  refine re_iconst (pc := 316) (3 : Int32) (by decide +kernel : decode cX13_go 316 = .ok (.iconst 3, 1)) (by decide) ?_
  rcases rv_if_e h with ⟨g5_, h⟩ | ⟨g5_, h⟩
  · refine re_icmp_ge_t (pc := 317) 337 (by decide +kernel : decode cX13_go 317 = .ok (.if_icmp .ge 20, 3)) (by decide) g5_ ?_
    refine re_sub [0, 1, 2] (lv1 := [(0, .ref a0), (2, .int x2), (3, .int x3)]) rfl ?_
    exact eX13_go_337 n K215 hK215 S a0 x2 x3 _ h
  · refine re_icmp_ge_f (pc := 317) 337 (by decide +kernel : decode cX13_go 317 = .ok (.if_icmp .ge 20, 3)) (by decide) g5_ ?_
    refine re_aloadn (pc := 320) 0 (by decide +kernel : decode cX13_go 320 = .ok (.aload_n 0, 1)) rfl ?_
    refine re_bipush (pc := 321) (10 : Int32) (by decide +kernel : decode cX13_go 321 = .ok (.bipush 10, 2)) (by decide) ?_
    refine re_aloadn (pc := 323) 0 (by decide +kernel : decode cX13_go 323 = .ok (.aload_n 0, 1)) rfl ?_
    obtain ⟨x6_, g7_, h⟩ := rv_b_e h
    refine re_gI (pc := 324) g7_ lfX13_138 rfl (by decide +kernel : decode cX13_go 324 = .ok (.getfield 138, 3)) ?_
    refine re_imul (pc := 327) (by decide +kernel : decode cX13_go 327 = .ok (.imul, 1)) ?_
    refine re_iload (pc := 328) 3 (by decide +kernel : decode cX13_go 328 = .ok (.iload 4, 2)) rfl ?_
    refine re_iadd (pc := 330) (by decide +kernel : decode cX13_go 330 = .ok (.iadd, 1)) ?_
    refine re_bipush (pc := 331) (48 : Int32) (by decide +kernel : decode cX13_go 331 = .ok (.bipush 48, 2)) (by decide) ?_
    refine re_isub (pc := 333) (by decide +kernel : decode cX13_go 333 = .ok (.isub, 1)) ?_
    obtain ⟨S8_, g9_, h⟩ := rv_b_e h
    refine re_pI (pc := 334) g9_ lfX13_138 rfl rfl rfl rfl (by decide +kernel : decode cX13_go 334 = .ok (.putfield 138, 3)) ?_
    refine re_sub [0, 1, 2] (lv1 := [(0, .ref a0), (2, .int x2), (3, .int x3)]) rfl ?_
    exact eX13_go_337 n K215 hK215 S8_ a0 x2 x3 _ h
noncomputable def cX13_go_272 (n : Nat) (K215 : Nat → Int32 → Int32 → rvS → Option rvS) (S : rvS) (a0 : Nat) (x2 : Int32) (x4 : Int32) (t0 : Int32) : Option rvS :=
  (rv_gI S 11 a0 5).bind fun x1_ =>
  (rv_gI S 11 a0 6).bind fun x3_ =>
  if (8 : Int32) ≤ (x1_ - x3_) then (
    cX13_go_307 n K215 S a0 x2 t0 x4)
  else (
    (rv_gL S 11 a0 12).bind fun x6_ =>
    (rv_pL S 11 a0 12 ((((27 : Int64) * x6_) + (x4.toInt64)) - (96 : Int64))).bind fun S8_ =>
    cX13_go_307 n K215 S8_ a0 x2 t0 x4)
set_option maxRecDepth 20000 in
set_option maxHeartbeats 4000000 in
theorem eX13_go_272 (n : Nat) (K215 : Nat → Int32 → Int32 → rvS → Option rvS) (hK215 : ∀ (a0 : Nat) (x2 : Int32) (x3 : Int32) (S : rvS) (S' : rvS), K215 a0 x2 x3 S = some S' → rv_Ev mX13_go 1 215 [(0, .ref a0), (2, .int x2), (3, .int x3)] [] S none S') (S : rvS) (a0 : Nat) (x2 : Int32) (x4 : Int32) (t0 : Int32) (S' : rvS) (h : cX13_go_272 n K215 S a0 x2 x4 t0 = some S') : rv_Ev mX13_go 1 272 [(0, .ref a0), (2, .int x2), (4, .int x4)] [.int t0] S none S' := by
  unfold cX13_go_272 at h
  refine re_istoren (pc := 272) (lv1 := [(3, .int t0), (0, .ref a0), (2, .int x2), (4, .int x4)]) (by decide +kernel : decode cX13_go 272 = .ok (.istore_n 3, 1)) rfl (by decide) rfl ?_
  refine re_aloadn (pc := 273) 1 (by decide +kernel : decode cX13_go 273 = .ok (.aload_n 0, 1)) rfl ?_
  obtain ⟨x1_, g2_, h⟩ := rv_b_e h
  refine re_gI (pc := 274) g2_ lfX13_112 rfl (by decide +kernel : decode cX13_go 274 = .ok (.getfield 112, 3)) ?_
  refine re_aloadn (pc := 277) 1 (by decide +kernel : decode cX13_go 277 = .ok (.aload_n 0, 1)) rfl ?_
  obtain ⟨x3_, g4_, h⟩ := rv_b_e h
  refine re_gI (pc := 278) g4_ lfX13_115 rfl (by decide +kernel : decode cX13_go 278 = .ok (.getfield 115, 3)) ?_
  refine re_isub (pc := 281) (by decide +kernel : decode cX13_go 281 = .ok (.isub, 1)) ?_
  refine re_bipush (pc := 282) (8 : Int32) (by decide +kernel : decode cX13_go 282 = .ok (.bipush 8, 2)) (by decide) ?_
  rcases rv_if_e h with ⟨g5_, h⟩ | ⟨g5_, h⟩
  · refine re_icmp_ge_t (pc := 284) 307 (by decide +kernel : decode cX13_go 284 = .ok (.if_icmp .ge 23, 3)) (by decide) g5_ ?_
    refine re_sub [1, 2, 0, 3] (lv1 := [(0, .ref a0), (2, .int x2), (3, .int t0), (4, .int x4)]) rfl ?_
    exact eX13_go_307 n K215 hK215 S a0 x2 t0 x4 _ h
  · refine re_icmp_ge_f (pc := 284) 307 (by decide +kernel : decode cX13_go 284 = .ok (.if_icmp .ge 23, 3)) (by decide) g5_ ?_
    refine re_aloadn (pc := 287) 1 (by decide +kernel : decode cX13_go 287 = .ok (.aload_n 0, 1)) rfl ?_
    refine re_ldc2 (pc := 288) (v := 27) (rw7 225 (by decide +kernel) rfl) (by decide +kernel : decode cX13_go 288 = .ok (.ldc2_w 145, 3)) ?_
    refine re_aloadn (pc := 291) 1 (by decide +kernel : decode cX13_go 291 = .ok (.aload_n 0, 1)) rfl ?_
    obtain ⟨x6_, g7_, h⟩ := rv_b_e h
    refine re_gL (pc := 292) g7_ lfX13_134 rfl (by decide +kernel : decode cX13_go 292 = .ok (.getfield 134, 3)) ?_
    refine re_lmul (pc := 295) (by decide +kernel : decode cX13_go 295 = .ok (.lmul, 1)) ?_
    refine re_iload (pc := 296) 3 (by decide +kernel : decode cX13_go 296 = .ok (.iload 4, 2)) rfl ?_
    refine re_i2l (pc := 298) (by decide +kernel : decode cX13_go 298 = .ok (.i2l, 1)) ?_
    refine re_ladd (pc := 299) (by decide +kernel : decode cX13_go 299 = .ok (.ladd, 1)) ?_
    refine re_ldc2 (pc := 300) (v := 96) (rw7 226 (by decide +kernel) rfl) (by decide +kernel : decode cX13_go 300 = .ok (.ldc2_w 147, 3)) ?_
    refine re_lsub (pc := 303) (by decide +kernel : decode cX13_go 303 = .ok (.lsub, 1)) ?_
    obtain ⟨S8_, g9_, h⟩ := rv_b_e h
    refine re_pL (pc := 304) g9_ lfX13_134 rfl rfl rfl rfl (by decide +kernel : decode cX13_go 304 = .ok (.putfield 134, 3)) ?_
    refine re_sub [1, 2, 0, 3] (lv1 := [(0, .ref a0), (2, .int x2), (3, .int t0), (4, .int x4)]) rfl ?_
    exact eX13_go_307 n K215 hK215 S8_ a0 x2 t0 x4 _ h
noncomputable def cX13_go_271 (n : Nat) (K215 : Nat → Int32 → Int32 → rvS → Option rvS) (S : rvS) (a0 : Nat) (x2 : Int32) (x4 : Int32) : Option rvS :=
  cX13_go_272 n K215 S a0 x2 x4 (0 : Int32)
set_option maxRecDepth 20000 in
set_option maxHeartbeats 4000000 in
theorem eX13_go_271 (n : Nat) (K215 : Nat → Int32 → Int32 → rvS → Option rvS) (hK215 : ∀ (a0 : Nat) (x2 : Int32) (x3 : Int32) (S : rvS) (S' : rvS), K215 a0 x2 x3 S = some S' → rv_Ev mX13_go 1 215 [(0, .ref a0), (2, .int x2), (3, .int x3)] [] S none S') (S : rvS) (a0 : Nat) (x2 : Int32) (x4 : Int32) (S' : rvS) (h : cX13_go_271 n K215 S a0 x2 x4 = some S') : rv_Ev mX13_go 1 271 [(0, .ref a0), (2, .int x2), (4, .int x4)] [] S none S' := by
  unfold cX13_go_271 at h
  refine re_iconst (pc := 271) (0 : Int32) (by decide +kernel : decode cX13_go 271 = .ok (.iconst 0, 1)) (by decide) ?_
  exact eX13_go_272 n K215 hK215 S a0 x2 x4 (0 : Int32) _ h
noncomputable def cX13_go_243 (n : Nat) (K215 : Nat → Int32 → Int32 → rvS → Option rvS) (S : rvS) (a0 : Nat) (x2 : Int32) (x3 : Int32) : Option rvS :=
  (rv_gR S 11 a0 1).bind fun a1_ =>
  (rv_gI S 11 a0 5).bind fun x3_ =>
  (rv_aI S 0 a1_ x3_).bind fun x5_ =>
  if x3 = 0 then (
    cX13_go_271 n K215 S a0 x2 x5_)
  else (
    (fnX13_isLetter n S x5_).bind fun x9_ =>
    if x9_ = x2 then (
      cX13_go_272 n K215 S a0 x2 x5_ (1 : Int32))
    else (
      cX13_go_271 n K215 S a0 x2 x5_))
set_option maxRecDepth 20000 in
set_option maxHeartbeats 4000000 in
theorem eX13_go_243 (n : Nat) (K215 : Nat → Int32 → Int32 → rvS → Option rvS) (hK215 : ∀ (a0 : Nat) (x2 : Int32) (x3 : Int32) (S : rvS) (S' : rvS), K215 a0 x2 x3 S = some S' → rv_Ev mX13_go 1 215 [(0, .ref a0), (2, .int x2), (3, .int x3)] [] S none S') (S : rvS) (a0 : Nat) (x2 : Int32) (x3 : Int32) (S' : rvS) (h : cX13_go_243 n K215 S a0 x2 x3 = some S') : rv_Ev mX13_go 1 243 [(0, .ref a0), (2, .int x2), (3, .int x3)] [] S none S' := by
  unfold cX13_go_243 at h
  refine re_aloadn (pc := 243) 0 (by decide +kernel : decode cX13_go 243 = .ok (.aload_n 0, 1)) rfl ?_
  obtain ⟨a1_, g2_, h⟩ := rv_b_e h
  refine re_gR (pc := 244) g2_ lfX13_7 rfl (by decide +kernel : decode cX13_go 244 = .ok (.getfield 7, 3)) ?_
  refine re_aloadn (pc := 247) 0 (by decide +kernel : decode cX13_go 247 = .ok (.aload_n 0, 1)) rfl ?_
  obtain ⟨x3_, g4_, h⟩ := rv_b_e h
  refine re_gI (pc := 248) g4_ lfX13_112 rfl (by decide +kernel : decode cX13_go 248 = .ok (.getfield 112, 3)) ?_
  obtain ⟨x5_, g6_, h⟩ := rv_b_e h
  refine re_aI (pc := 251) g6_ (by decide +kernel : decode cX13_go 251 = .ok (.iaload, 1)) ?_
  refine re_istore (pc := 252) (lv1 := [(4, .int x5_), (0, .ref a0), (2, .int x2), (3, .int x3)]) (by decide +kernel : decode cX13_go 252 = .ok (.istore 4, 2)) (by decide) rfl ?_
  refine re_iloadn (pc := 254) 3 (by decide +kernel : decode cX13_go 254 = .ok (.iload_n 3, 1)) rfl ?_
  rcases rv_if_e h with ⟨g7_, h⟩ | ⟨g7_, h⟩
  · refine re_if_eq_t (pc := 255) 271 (by decide +kernel : decode cX13_go 255 = .ok (.ifCond .eq 16, 3)) (by decide) g7_ ?_
    refine re_sub [1, 2, 0] (lv1 := [(0, .ref a0), (2, .int x2), (4, .int x5_)]) rfl ?_
    exact eX13_go_271 n K215 hK215 S a0 x2 x5_ _ h
  · refine re_if_eq_f (pc := 255) 271 (by decide +kernel : decode cX13_go 255 = .ok (.ifCond .eq 16, 3)) (by decide) g7_ ?_
    refine re_iload (pc := 258) 0 (by decide +kernel : decode cX13_go 258 = .ok (.iload 4, 2)) rfl ?_
    obtain ⟨x9_, g10_, h⟩ := rv_b_e h
    have m8_ := metX13_isLetter n S x5_ _ g10_
    refine re_cS (pc := 260) [.int x5_] m8_ (rv_okl.k ⟨rfl, rfl⟩) (rv_up.rf _ _) (by decide) (Nat.le_of_ble_eq_true rfl) lSX13_124 rfl (by decide +kernel : decode cX13_go 260 = .ok (.invokestatic 124, 3)) ?_
    refine re_iloadn (pc := 263) 2 (by decide +kernel : decode cX13_go 263 = .ok (.iload_n 2, 1)) rfl ?_
    rcases rv_if_e h with ⟨g11_, h⟩ | ⟨g11_, h⟩
    · refine re_icmp_ne_f (pc := 264) 271 (by decide +kernel : decode cX13_go 264 = .ok (.if_icmp .ne 7, 3)) (by decide) g11_ ?_
      refine re_iconst (pc := 267) (1 : Int32) (by decide +kernel : decode cX13_go 267 = .ok (.iconst 1, 1)) (by decide) ?_
      refine re_goto (pc := 268) 272 (by decide +kernel : decode cX13_go 268 = .ok (.goto 4, 3)) (by decide) ?_
      refine re_sub [1, 2, 0] (lv1 := [(0, .ref a0), (2, .int x2), (4, .int x5_)]) rfl ?_
      exact eX13_go_272 n K215 hK215 S a0 x2 x5_ (1 : Int32) _ h
    · refine re_icmp_ne_t (pc := 264) 271 (by decide +kernel : decode cX13_go 264 = .ok (.if_icmp .ne 7, 3)) (by decide) g11_ ?_
      refine re_sub [1, 2, 0] (lv1 := [(0, .ref a0), (2, .int x2), (4, .int x5_)]) rfl ?_
      exact eX13_go_271 n K215 hK215 S a0 x2 x5_ _ h
noncomputable def cX13_go_374 (n : Nat) (S : rvS) (x2 : Int32) (t0 : Nat) (t1 : Int32) (t2 : Int32) : Option rvS :=
  if t1 ≤ t2 then (
    if x2 = 0 then (
      (rv_pI S 11 t0 7 (3 : Int32)).bind fun S3_ =>
      some S3_)
    else (
      (rv_pI S 11 t0 7 (2 : Int32)).bind fun S5_ =>
      some S5_))
  else (
    (rv_pI S 11 t0 7 (1 : Int32)).bind fun S7_ =>
    some S7_)
set_option maxRecDepth 20000 in
set_option maxHeartbeats 4000000 in
theorem eX13_go_374 (n : Nat) (S : rvS) (x2 : Int32) (t0 : Nat) (t1 : Int32) (t2 : Int32) (S' : rvS) (h : cX13_go_374 n S x2 t0 t1 t2 = some S') : rv_Ev mX13_go 1 374 [(2, .int x2)] [.int t2, .int t1, .ref t0] S none S' := by
  unfold cX13_go_374 at h
  rcases rv_if_e h with ⟨g1_, h⟩ | ⟨g1_, h⟩
  · refine re_icmp_le_t (pc := 374) 381 (by decide +kernel : decode cX13_go 374 = .ok (.if_icmp .le 7, 3)) (by decide) g1_ ?_
    refine re_iloadn (pc := 381) 0 (by decide +kernel : decode cX13_go 381 = .ok (.iload_n 2, 1)) rfl ?_
    rcases rv_if_e h with ⟨g2_, h⟩ | ⟨g2_, h⟩
    · refine re_if_eq_t (pc := 382) 389 (by decide +kernel : decode cX13_go 382 = .ok (.ifCond .eq 7, 3)) (by decide) g2_ ?_
      refine re_iconst (pc := 389) (3 : Int32) (by decide +kernel : decode cX13_go 389 = .ok (.iconst 3, 1)) (by decide) ?_
      obtain ⟨S3_, g4_, h⟩ := rv_b_e h
      refine re_pI (pc := 390) g4_ lfX13_121 rfl rfl rfl rfl (by decide +kernel : decode cX13_go 390 = .ok (.putfield 121, 3)) ?_
      cases h
      exact re_vret (by decide +kernel : decode cX13_go 393 = .ok (.return_, 1))
    · refine re_if_eq_f (pc := 382) 389 (by decide +kernel : decode cX13_go 382 = .ok (.ifCond .eq 7, 3)) (by decide) g2_ ?_
      refine re_iconst (pc := 385) (2 : Int32) (by decide +kernel : decode cX13_go 385 = .ok (.iconst 2, 1)) (by decide) ?_
      refine re_goto (pc := 386) 390 (by decide +kernel : decode cX13_go 386 = .ok (.goto 4, 3)) (by decide) ?_
      obtain ⟨S5_, g6_, h⟩ := rv_b_e h
      refine re_pI (pc := 390) g6_ lfX13_121 rfl rfl rfl rfl (by decide +kernel : decode cX13_go 390 = .ok (.putfield 121, 3)) ?_
      cases h
      exact re_vret (by decide +kernel : decode cX13_go 393 = .ok (.return_, 1))
  · refine re_icmp_le_f (pc := 374) 381 (by decide +kernel : decode cX13_go 374 = .ok (.if_icmp .le 7, 3)) (by decide) g1_ ?_
    refine re_iconst (pc := 377) (1 : Int32) (by decide +kernel : decode cX13_go 377 = .ok (.iconst 1, 1)) (by decide) ?_
    refine re_goto (pc := 378) 390 (by decide +kernel : decode cX13_go 378 = .ok (.goto 12, 3)) (by decide) ?_
    obtain ⟨S7_, g8_, h⟩ := rv_b_e h
    refine re_pI (pc := 390) g8_ lfX13_121 rfl rfl rfl rfl (by decide +kernel : decode cX13_go 390 = .ok (.putfield 121, 3)) ?_
    cases h
    exact re_vret (by decide +kernel : decode cX13_go 393 = .ok (.return_, 1))
noncomputable def cX13_go_350 (n : Nat) (S : rvS) (a0 : Nat) (x2 : Int32) (x3 : Int32) : Option rvS :=
  if x3 = 0 then (
    (rv_pI S 11 a0 7 (1 : Int32)).bind fun S2_ =>
    some S2_)
  else (
    (rv_gI S 11 a0 5).bind fun x4_ =>
    (rv_gI S 11 a0 6).bind fun x6_ =>
    if x2 = 0 then (
      cX13_go_374 n S x2 a0 (x4_ - x6_) (3 : Int32))
    else (
      cX13_go_374 n S x2 a0 (x4_ - x6_) (8 : Int32)))
set_option maxRecDepth 20000 in
set_option maxHeartbeats 4000000 in
theorem eX13_go_350 (n : Nat) (S : rvS) (a0 : Nat) (x2 : Int32) (x3 : Int32) (S' : rvS) (h : cX13_go_350 n S a0 x2 x3 = some S') : rv_Ev mX13_go 1 350 [(0, .ref a0), (2, .int x2), (3, .int x3)] [] S none S' := by
  unfold cX13_go_350 at h
  refine re_aloadn (pc := 350) 0 (by decide +kernel : decode cX13_go 350 = .ok (.aload_n 0, 1)) rfl ?_
  refine re_iloadn (pc := 351) 2 (by decide +kernel : decode cX13_go 351 = .ok (.iload_n 3, 1)) rfl ?_
  rcases rv_if_e h with ⟨g1_, h⟩ | ⟨g1_, h⟩
  · refine re_if_eq_t (pc := 352) 377 (by decide +kernel : decode cX13_go 352 = .ok (.ifCond .eq 25, 3)) (by decide) g1_ ?_
    refine re_iconst (pc := 377) (1 : Int32) (by decide +kernel : decode cX13_go 377 = .ok (.iconst 1, 1)) (by decide) ?_
    refine re_goto (pc := 378) 390 (by decide +kernel : decode cX13_go 378 = .ok (.goto 12, 3)) (by decide) ?_
    obtain ⟨S2_, g3_, h⟩ := rv_b_e h
    refine re_pI (pc := 390) g3_ lfX13_121 rfl rfl rfl rfl (by decide +kernel : decode cX13_go 390 = .ok (.putfield 121, 3)) ?_
    cases h
    exact re_vret (by decide +kernel : decode cX13_go 393 = .ok (.return_, 1))
  · refine re_if_eq_f (pc := 352) 377 (by decide +kernel : decode cX13_go 352 = .ok (.ifCond .eq 25, 3)) (by decide) g1_ ?_
    refine re_aloadn (pc := 355) 0 (by decide +kernel : decode cX13_go 355 = .ok (.aload_n 0, 1)) rfl ?_
    obtain ⟨x4_, g5_, h⟩ := rv_b_e h
    refine re_gI (pc := 356) g5_ lfX13_112 rfl (by decide +kernel : decode cX13_go 356 = .ok (.getfield 112, 3)) ?_
    refine re_aloadn (pc := 359) 0 (by decide +kernel : decode cX13_go 359 = .ok (.aload_n 0, 1)) rfl ?_
    obtain ⟨x6_, g7_, h⟩ := rv_b_e h
    refine re_gI (pc := 360) g7_ lfX13_115 rfl (by decide +kernel : decode cX13_go 360 = .ok (.getfield 115, 3)) ?_
    refine re_isub (pc := 363) (by decide +kernel : decode cX13_go 363 = .ok (.isub, 1)) ?_
    refine re_iloadn (pc := 364) 1 (by decide +kernel : decode cX13_go 364 = .ok (.iload_n 2, 1)) rfl ?_
    rcases rv_if_e h with ⟨g8_, h⟩ | ⟨g8_, h⟩
    · refine re_if_eq_t (pc := 365) 373 (by decide +kernel : decode cX13_go 365 = .ok (.ifCond .eq 8, 3)) (by decide) g8_ ?_
      refine re_iconst (pc := 373) (3 : Int32) (by decide +kernel : decode cX13_go 373 = .ok (.iconst 3, 1)) (by decide) ?_
      refine re_sub [1] (lv1 := [(2, .int x2)]) rfl ?_
      exact eX13_go_374 n S x2 a0 (x4_ - x6_) (3 : Int32) _ h
    · refine re_if_eq_f (pc := 365) 373 (by decide +kernel : decode cX13_go 365 = .ok (.ifCond .eq 8, 3)) (by decide) g8_ ?_
      refine re_bipush (pc := 368) (8 : Int32) (by decide +kernel : decode cX13_go 368 = .ok (.bipush 8, 2)) (by decide) ?_
      refine re_goto (pc := 370) 374 (by decide +kernel : decode cX13_go 370 = .ok (.goto 4, 3)) (by decide) ?_
      refine re_sub [1] (lv1 := [(2, .int x2)]) rfl ?_
      exact eX13_go_374 n S x2 a0 (x4_ - x6_) (8 : Int32) _ h
noncomputable def cX13_go_215 (n : Nat) : Nat → rvS → Nat → Int32 → Int32 → Option rvS
  | 0, _, _, _, _ => none
  | k + 1, S, a0, x2, x3 =>
    (rv_gI S 11 a0 5).bind fun x1_ =>
    (rv_ck S 11 a0).bind fun u3_ =>
    (fnX13_tapeAt n S a0 x1_).bind fun x6_ =>
    (fnX13_isLetter n S x6_).bind fun x9_ =>
    if x9_ = 0 then (
      (rv_gI S 11 a0 5).bind fun x12_ =>
      (rv_ck S 11 a0).bind fun u14_ =>
      (fnX13_tapeAt n S a0 x12_).bind fun x17_ =>
      (fnX13_isDigit n S x17_).bind fun x20_ =>
      if x20_ = 0 then (
        cX13_go_350 n S a0 x2 x3)
      else (
        cX13_go_243 n (fun a0 x2 x3 S => cX13_go_215 n k S a0 x2 x3) S a0 x2 x3))
    else (
      cX13_go_243 n (fun a0 x2 x3 S => cX13_go_215 n k S a0 x2 x3) S a0 x2 x3)
set_option maxRecDepth 20000 in
set_option maxHeartbeats 4000000 in
theorem eX13_go_215 (n : Nat) : ∀ (k : Nat) (S : rvS) (a0 : Nat) (x2 : Int32) (x3 : Int32) (S' : rvS), cX13_go_215 n k S a0 x2 x3 = some S' → rv_Ev mX13_go 1 215 [(0, .ref a0), (2, .int x2), (3, .int x3)] [] S none S' := by
  intro k
  induction k with
  | zero => intro S a0 x2 x3 S' h; exact absurd h (by simp [cX13_go_215])
  | succ k ih =>
    intro S a0 x2 x3 S' h
    unfold cX13_go_215 at h
    refine re_aloadn (pc := 215) 0 (by decide +kernel : decode cX13_go 215 = .ok (.aload_n 0, 1)) rfl ?_
    refine re_aloadn (pc := 216) 0 (by decide +kernel : decode cX13_go 216 = .ok (.aload_n 0, 1)) rfl ?_
    obtain ⟨x1_, g2_, h⟩ := rv_b_e h
    refine re_gI (pc := 217) g2_ lfX13_112 rfl (by decide +kernel : decode cX13_go 217 = .ok (.getfield 112, 3)) ?_
    obtain ⟨u3_, g4_, h⟩ := rv_b_e h
    obtain ⟨x6_, g7_, h⟩ := rv_b_e h
    have m5_ := metX13_tapeAt n S a0 x1_ _ g7_
    refine re_cV (pc := 220) [.int x1_] m5_ (rv_okl.k ⟨rfl, rfl⟩) (rv_up.rf _ _) (by decide) (rv_ck_e g4_) ⟨by decide, rfl⟩ (Nat.le_of_ble_eq_true rfl) lVX13_141 rfl (by decide +kernel : decode cX13_go 220 = .ok (.invokevirtual 141, 3)) ?_
    obtain ⟨x9_, g10_, h⟩ := rv_b_e h
    have m8_ := metX13_isLetter n S x6_ _ g10_
    refine re_cS (pc := 223) [.int x6_] m8_ (rv_okl.k ⟨rfl, rfl⟩) (rv_up.rf _ _) (by decide) (Nat.le_of_ble_eq_true rfl) lSX13_124 rfl (by decide +kernel : decode cX13_go 223 = .ok (.invokestatic 124, 3)) ?_
    rcases rv_if_e h with ⟨g11_, h⟩ | ⟨g11_, h⟩
    · refine re_if_ne_f (pc := 226) 243 (by decide +kernel : decode cX13_go 226 = .ok (.ifCond .ne 17, 3)) (by decide) g11_ ?_
      refine re_aloadn (pc := 229) 0 (by decide +kernel : decode cX13_go 229 = .ok (.aload_n 0, 1)) rfl ?_
      refine re_aloadn (pc := 230) 0 (by decide +kernel : decode cX13_go 230 = .ok (.aload_n 0, 1)) rfl ?_
      obtain ⟨x12_, g13_, h⟩ := rv_b_e h
      refine re_gI (pc := 231) g13_ lfX13_112 rfl (by decide +kernel : decode cX13_go 231 = .ok (.getfield 112, 3)) ?_
      obtain ⟨u14_, g15_, h⟩ := rv_b_e h
      obtain ⟨x17_, g18_, h⟩ := rv_b_e h
      have m16_ := metX13_tapeAt n S a0 x12_ _ g18_
      refine re_cV (pc := 234) [.int x12_] m16_ (rv_okl.k ⟨rfl, rfl⟩) (rv_up.rf _ _) (by decide) (rv_ck_e g15_) ⟨by decide, rfl⟩ (Nat.le_of_ble_eq_true rfl) lVX13_141 rfl (by decide +kernel : decode cX13_go 234 = .ok (.invokevirtual 141, 3)) ?_
      obtain ⟨x20_, g21_, h⟩ := rv_b_e h
      have m19_ := metX13_isDigit n S x17_ _ g21_
      refine re_cS (pc := 237) [.int x17_] m19_ (rv_okl.k ⟨rfl, rfl⟩) (rv_up.rf _ _) (by decide) (Nat.le_of_ble_eq_true rfl) lSX13_128 rfl (by decide +kernel : decode cX13_go 237 = .ok (.invokestatic 128, 3)) ?_
      rcases rv_if_e h with ⟨g22_, h⟩ | ⟨g22_, h⟩
      · refine re_if_eq_t (pc := 240) 350 (by decide +kernel : decode cX13_go 240 = .ok (.ifCond .eq 110, 3)) (by decide) g22_ ?_
        exact eX13_go_350 n S a0 x2 x3 _ h
      · refine re_if_eq_f (pc := 240) 350 (by decide +kernel : decode cX13_go 240 = .ok (.ifCond .eq 110, 3)) (by decide) g22_ ?_
        exact eX13_go_243 n (fun a0 x2 x3 S => cX13_go_215 n k S a0 x2 x3) (fun a0 x2 x3 S _ h => ih S a0 x2 x3 _ h) S a0 x2 x3 _ h
    · refine re_if_ne_t (pc := 226) 243 (by decide +kernel : decode cX13_go 226 = .ok (.ifCond .ne 17, 3)) (by decide) g11_ ?_
      exact eX13_go_243 n (fun a0 x2 x3 S => cX13_go_215 n k S a0 x2 x3) (fun a0 x2 x3 S _ h => ih S a0 x2 x3 _ h) S a0 x2 x3 _ h
noncomputable def cX13_go_198 (n : Nat) (S : rvS) (a0 : Nat) (x1 : Int32) : Option rvS :=
  (fnX13_isLetter n S x1).bind fun x2_ =>
  (rv_pL S 11 a0 12 (0 : Int64)).bind fun S4_ =>
  (rv_pI S4_ 11 a0 8 (0 : Int32)).bind fun S6_ =>
  cX13_go_215 n n S6_ a0 x2_ (1 : Int32)
set_option maxRecDepth 20000 in
set_option maxHeartbeats 4000000 in
theorem eX13_go_198 (n : Nat) (S : rvS) (a0 : Nat) (x1 : Int32) (S' : rvS) (h : cX13_go_198 n S a0 x1 = some S') : rv_Ev mX13_go 1 198 [(0, .ref a0), (1, .int x1)] [] S none S' := by
  unfold cX13_go_198 at h
  refine re_iloadn (pc := 198) 1 (by decide +kernel : decode cX13_go 198 = .ok (.iload_n 1, 1)) rfl ?_
  obtain ⟨x2_, g3_, h⟩ := rv_b_e h
  have m1_ := metX13_isLetter n S x1 _ g3_
  refine re_cS (pc := 199) [.int x1] m1_ (rv_okl.k ⟨rfl, rfl⟩) (rv_up.rf _ _) (by decide) (Nat.le_of_ble_eq_true rfl) lSX13_124 rfl (by decide +kernel : decode cX13_go 199 = .ok (.invokestatic 124, 3)) ?_
  refine re_istoren (pc := 202) (lv1 := [(2, .int x2_), (0, .ref a0), (1, .int x1)]) (by decide +kernel : decode cX13_go 202 = .ok (.istore_n 2, 1)) rfl (by decide) rfl ?_
  refine re_iconst (pc := 203) (1 : Int32) (by decide +kernel : decode cX13_go 203 = .ok (.iconst 1, 1)) (by decide) ?_
  refine re_istoren (pc := 204) (lv1 := [(3, .int (1 : Int32)), (2, .int x2_), (0, .ref a0), (1, .int x1)]) (by decide +kernel : decode cX13_go 204 = .ok (.istore_n 3, 1)) rfl (by decide) rfl ?_
  refine re_aloadn (pc := 205) 2 (by decide +kernel : decode cX13_go 205 = .ok (.aload_n 0, 1)) rfl ?_
  refine re_lconst (pc := 206) (0 : Int64) (by decide +kernel : decode cX13_go 206 = .ok (.lconst 0, 1)) (by decide) ?_
  obtain ⟨S4_, g5_, h⟩ := rv_b_e h
  refine re_pL (pc := 207) g5_ lfX13_134 rfl rfl rfl rfl (by decide +kernel : decode cX13_go 207 = .ok (.putfield 134, 3)) ?_
  refine re_aloadn (pc := 210) 2 (by decide +kernel : decode cX13_go 210 = .ok (.aload_n 0, 1)) rfl ?_
  refine re_iconst (pc := 211) (0 : Int32) (by decide +kernel : decode cX13_go 211 = .ok (.iconst 0, 1)) (by decide) ?_
  obtain ⟨S6_, g7_, h⟩ := rv_b_e h
  refine re_pI (pc := 212) g7_ lfX13_138 rfl rfl rfl rfl (by decide +kernel : decode cX13_go 212 = .ok (.putfield 138, 3)) ?_
  refine re_sub [2, 1, 0] (lv1 := [(0, .ref a0), (2, .int x2_), (3, .int (1 : Int32))]) rfl ?_
  exact eX13_go_215 n n S6_ a0 x2_ (1 : Int32) _ h
noncomputable def cX13_go_96 (n : Nat) (S : rvS) (a0 : Nat) : Option rvS :=
  (rv_gI S 11 a0 5).bind fun x1_ =>
  (rv_gI S 11 a0 3).bind fun x3_ =>
  if x1_ < x3_ then (
    (rv_gR S 11 a0 1).bind fun a6_ =>
    (rv_gI S 11 a0 5).bind fun x8_ =>
    (rv_aI S 0 a6_ x8_).bind fun x10_ =>
    (fnX13_isLetter n S x10_).bind fun x13_ =>
    if x13_ = 0 then (
      (fnX13_isDigit n S x10_).bind fun x17_ =>
      if x17_ = 0 then (
        if x10_ = (59 : Int32) then (
          cX13_go_174 n S a0 x10_ a0)
        else (
          if x10_ = (60 : Int32) then (
            cX13_go_174 n S a0 x10_ a0)
          else (
            if x10_ = (61 : Int32) then (
              cX13_go_174 n S a0 x10_ a0)
            else (
              if x10_ = (62 : Int32) then (
                cX13_go_174 n S a0 x10_ a0)
              else (
                if x10_ = (40 : Int32) then (
                  cX13_go_174 n S a0 x10_ a0)
                else (
                  if x10_ = (41 : Int32) then (
                    cX13_go_174 n S a0 x10_ a0)
                  else (
                    cX13_go_179 n S a0 x10_ a0 (1 : Int32))))))))
      else (
        cX13_go_198 n S a0 x10_))
    else (
      cX13_go_198 n S a0 x10_))
  else (
    (rv_pI S 11 a0 7 (0 : Int32)).bind fun S26_ =>
    some S26_)
set_option maxRecDepth 20000 in
set_option maxHeartbeats 4000000 in
theorem eX13_go_96 (n : Nat) (S : rvS) (a0 : Nat) (S' : rvS) (h : cX13_go_96 n S a0 = some S') : rv_Ev mX13_go 1 96 [(0, .ref a0)] [] S none S' := by
  unfold cX13_go_96 at h
  refine re_aloadn (pc := 96) 0 (by decide +kernel : decode cX13_go 96 = .ok (.aload_n 0, 1)) rfl ?_
  obtain ⟨x1_, g2_, h⟩ := rv_b_e h
  refine re_gI (pc := 97) g2_ lfX13_112 rfl (by decide +kernel : decode cX13_go 97 = .ok (.getfield 112, 3)) ?_
  refine re_aloadn (pc := 100) 0 (by decide +kernel : decode cX13_go 100 = .ok (.aload_n 0, 1)) rfl ?_
  obtain ⟨x3_, g4_, h⟩ := rv_b_e h
  refine re_gI (pc := 101) g4_ lfX13_109 rfl (by decide +kernel : decode cX13_go 101 = .ok (.getfield 109, 3)) ?_
  rcases rv_if_e h with ⟨g5_, h⟩ | ⟨g5_, h⟩
  · refine re_icmp_lt_t (pc := 104) 113 (by decide +kernel : decode cX13_go 104 = .ok (.if_icmp .lt 9, 3)) (by decide) g5_ ?_
    refine re_aloadn (pc := 113) 0 (by decide +kernel : decode cX13_go 113 = .ok (.aload_n 0, 1)) rfl ?_
    obtain ⟨a6_, g7_, h⟩ := rv_b_e h
    refine re_gR (pc := 114) g7_ lfX13_7 rfl (by decide +kernel : decode cX13_go 114 = .ok (.getfield 7, 3)) ?_
    refine re_aloadn (pc := 117) 0 (by decide +kernel : decode cX13_go 117 = .ok (.aload_n 0, 1)) rfl ?_
    obtain ⟨x8_, g9_, h⟩ := rv_b_e h
    refine re_gI (pc := 118) g9_ lfX13_112 rfl (by decide +kernel : decode cX13_go 118 = .ok (.getfield 112, 3)) ?_
    obtain ⟨x10_, g11_, h⟩ := rv_b_e h
    refine re_aI (pc := 121) g11_ (by decide +kernel : decode cX13_go 121 = .ok (.iaload, 1)) ?_
    refine re_istoren (pc := 122) (lv1 := [(1, .int x10_), (0, .ref a0)]) (by decide +kernel : decode cX13_go 122 = .ok (.istore_n 1, 1)) rfl (by decide) rfl ?_
    refine re_iloadn (pc := 123) 0 (by decide +kernel : decode cX13_go 123 = .ok (.iload_n 1, 1)) rfl ?_
    obtain ⟨x13_, g14_, h⟩ := rv_b_e h
    have m12_ := metX13_isLetter n S x10_ _ g14_
    refine re_cS (pc := 124) [.int x10_] m12_ (rv_okl.k ⟨rfl, rfl⟩) (rv_up.rf _ _) (by decide) (Nat.le_of_ble_eq_true rfl) lSX13_124 rfl (by decide +kernel : decode cX13_go 124 = .ok (.invokestatic 124, 3)) ?_
    rcases rv_if_e h with ⟨g15_, h⟩ | ⟨g15_, h⟩
    · refine re_if_ne_f (pc := 127) 198 (by decide +kernel : decode cX13_go 127 = .ok (.ifCond .ne 71, 3)) (by decide) g15_ ?_
      refine re_iloadn (pc := 130) 0 (by decide +kernel : decode cX13_go 130 = .ok (.iload_n 1, 1)) rfl ?_
      obtain ⟨x17_, g18_, h⟩ := rv_b_e h
      have m16_ := metX13_isDigit n S x10_ _ g18_
      refine re_cS (pc := 131) [.int x10_] m16_ (rv_okl.k ⟨rfl, rfl⟩) (rv_up.rf _ _) (by decide) (Nat.le_of_ble_eq_true rfl) lSX13_128 rfl (by decide +kernel : decode cX13_go 131 = .ok (.invokestatic 128, 3)) ?_
      rcases rv_if_e h with ⟨g19_, h⟩ | ⟨g19_, h⟩
      · refine re_if_ne_f (pc := 134) 198 (by decide +kernel : decode cX13_go 134 = .ok (.ifCond .ne 64, 3)) (by decide) g19_ ?_
        refine re_aloadn (pc := 137) 1 (by decide +kernel : decode cX13_go 137 = .ok (.aload_n 0, 1)) rfl ?_
        refine re_iloadn (pc := 138) 0 (by decide +kernel : decode cX13_go 138 = .ok (.iload_n 1, 1)) rfl ?_
        refine re_bipush (pc := 139) (59 : Int32) (by decide +kernel : decode cX13_go 139 = .ok (.bipush 59, 2)) (by decide) ?_
        rcases rv_if_e h with ⟨g20_, h⟩ | ⟨g20_, h⟩
        · refine re_icmp_eq_t (pc := 141) 174 (by decide +kernel : decode cX13_go 141 = .ok (.if_icmp .eq 33, 3)) (by decide) g20_ ?_
          refine re_sub [1, 0] (lv1 := [(0, .ref a0), (1, .int x10_)]) rfl ?_
          exact eX13_go_174 n S a0 x10_ a0 _ h
        · refine re_icmp_eq_f (pc := 141) 174 (by decide +kernel : decode cX13_go 141 = .ok (.if_icmp .eq 33, 3)) (by decide) g20_ ?_
          refine re_iloadn (pc := 144) 0 (by decide +kernel : decode cX13_go 144 = .ok (.iload_n 1, 1)) rfl ?_
          refine re_bipush (pc := 145) (60 : Int32) (by decide +kernel : decode cX13_go 145 = .ok (.bipush 60, 2)) (by decide) ?_
          rcases rv_if_e h with ⟨g21_, h⟩ | ⟨g21_, h⟩
          · refine re_icmp_eq_t (pc := 147) 174 (by decide +kernel : decode cX13_go 147 = .ok (.if_icmp .eq 27, 3)) (by decide) g21_ ?_
            refine re_sub [1, 0] (lv1 := [(0, .ref a0), (1, .int x10_)]) rfl ?_
            exact eX13_go_174 n S a0 x10_ a0 _ h
          · refine re_icmp_eq_f (pc := 147) 174 (by decide +kernel : decode cX13_go 147 = .ok (.if_icmp .eq 27, 3)) (by decide) g21_ ?_
            refine re_iloadn (pc := 150) 0 (by decide +kernel : decode cX13_go 150 = .ok (.iload_n 1, 1)) rfl ?_
            refine re_bipush (pc := 151) (61 : Int32) (by decide +kernel : decode cX13_go 151 = .ok (.bipush 61, 2)) (by decide) ?_
            rcases rv_if_e h with ⟨g22_, h⟩ | ⟨g22_, h⟩
            · refine re_icmp_eq_t (pc := 153) 174 (by decide +kernel : decode cX13_go 153 = .ok (.if_icmp .eq 21, 3)) (by decide) g22_ ?_
              refine re_sub [1, 0] (lv1 := [(0, .ref a0), (1, .int x10_)]) rfl ?_
              exact eX13_go_174 n S a0 x10_ a0 _ h
            · refine re_icmp_eq_f (pc := 153) 174 (by decide +kernel : decode cX13_go 153 = .ok (.if_icmp .eq 21, 3)) (by decide) g22_ ?_
              refine re_iloadn (pc := 156) 0 (by decide +kernel : decode cX13_go 156 = .ok (.iload_n 1, 1)) rfl ?_
              refine re_bipush (pc := 157) (62 : Int32) (by decide +kernel : decode cX13_go 157 = .ok (.bipush 62, 2)) (by decide) ?_
              rcases rv_if_e h with ⟨g23_, h⟩ | ⟨g23_, h⟩
              · refine re_icmp_eq_t (pc := 159) 174 (by decide +kernel : decode cX13_go 159 = .ok (.if_icmp .eq 15, 3)) (by decide) g23_ ?_
                refine re_sub [1, 0] (lv1 := [(0, .ref a0), (1, .int x10_)]) rfl ?_
                exact eX13_go_174 n S a0 x10_ a0 _ h
              · refine re_icmp_eq_f (pc := 159) 174 (by decide +kernel : decode cX13_go 159 = .ok (.if_icmp .eq 15, 3)) (by decide) g23_ ?_
                refine re_iloadn (pc := 162) 0 (by decide +kernel : decode cX13_go 162 = .ok (.iload_n 1, 1)) rfl ?_
                refine re_bipush (pc := 163) (40 : Int32) (by decide +kernel : decode cX13_go 163 = .ok (.bipush 40, 2)) (by decide) ?_
                rcases rv_if_e h with ⟨g24_, h⟩ | ⟨g24_, h⟩
                · refine re_icmp_eq_t (pc := 165) 174 (by decide +kernel : decode cX13_go 165 = .ok (.if_icmp .eq 9, 3)) (by decide) g24_ ?_
                  refine re_sub [1, 0] (lv1 := [(0, .ref a0), (1, .int x10_)]) rfl ?_
                  exact eX13_go_174 n S a0 x10_ a0 _ h
                · refine re_icmp_eq_f (pc := 165) 174 (by decide +kernel : decode cX13_go 165 = .ok (.if_icmp .eq 9, 3)) (by decide) g24_ ?_
                  refine re_iloadn (pc := 168) 0 (by decide +kernel : decode cX13_go 168 = .ok (.iload_n 1, 1)) rfl ?_
                  refine re_bipush (pc := 169) (41 : Int32) (by decide +kernel : decode cX13_go 169 = .ok (.bipush 41, 2)) (by decide) ?_
                  rcases rv_if_e h with ⟨g25_, h⟩ | ⟨g25_, h⟩
                  · refine re_icmp_ne_f (pc := 171) 178 (by decide +kernel : decode cX13_go 171 = .ok (.if_icmp .ne 7, 3)) (by decide) g25_ ?_
                    refine re_sub [1, 0] (lv1 := [(0, .ref a0), (1, .int x10_)]) rfl ?_
                    exact eX13_go_174 n S a0 x10_ a0 _ h
                  · refine re_icmp_ne_t (pc := 171) 178 (by decide +kernel : decode cX13_go 171 = .ok (.if_icmp .ne 7, 3)) (by decide) g25_ ?_
                    refine re_iconst (pc := 178) (1 : Int32) (by decide +kernel : decode cX13_go 178 = .ok (.iconst 1, 1)) (by decide) ?_
                    refine re_sub [1, 0] (lv1 := [(0, .ref a0), (1, .int x10_)]) rfl ?_
                    exact eX13_go_179 n S a0 x10_ a0 (1 : Int32) _ h
      · refine re_if_ne_t (pc := 134) 198 (by decide +kernel : decode cX13_go 134 = .ok (.ifCond .ne 64, 3)) (by decide) g19_ ?_
        refine re_sub [1, 0] (lv1 := [(0, .ref a0), (1, .int x10_)]) rfl ?_
        exact eX13_go_198 n S a0 x10_ _ h
    · refine re_if_ne_t (pc := 127) 198 (by decide +kernel : decode cX13_go 127 = .ok (.ifCond .ne 71, 3)) (by decide) g15_ ?_
      refine re_sub [1, 0] (lv1 := [(0, .ref a0), (1, .int x10_)]) rfl ?_
      exact eX13_go_198 n S a0 x10_ _ h
  · refine re_icmp_lt_f (pc := 104) 113 (by decide +kernel : decode cX13_go 104 = .ok (.if_icmp .lt 9, 3)) (by decide) g5_ ?_
    refine re_aloadn (pc := 107) 0 (by decide +kernel : decode cX13_go 107 = .ok (.aload_n 0, 1)) rfl ?_
    refine re_iconst (pc := 108) (0 : Int32) (by decide +kernel : decode cX13_go 108 = .ok (.iconst 0, 1)) (by decide) ?_
    obtain ⟨S26_, g27_, h⟩ := rv_b_e h
    refine re_pI (pc := 109) g27_ lfX13_121 rfl rfl rfl rfl (by decide +kernel : decode cX13_go 109 = .ok (.putfield 121, 3)) ?_
    cases h
    exact re_vret (by decide +kernel : decode cX13_go 112 = .ok (.return_, 1))
noncomputable def cX13_go_52 (n : Nat) (S : rvS) (a0 : Nat) : Option rvS :=
  (rv_gI S 11 a0 5).bind fun x1_ =>
  (rv_pI S 11 a0 6 x1_).bind fun S3_ =>
  (rv_gI S3_ 11 a0 3).bind fun x5_ =>
  (rv_gI S3_ 11 a0 4).bind fun x7_ =>
  if x5_ ≤ x7_ then (
    cX13_go_96 n S3_ a0)
  else (
    (rv_gI S3_ 11 a0 6).bind fun x10_ =>
    (rv_gI S3_ 11 a0 4).bind fun x12_ =>
    if x10_ < x12_ then (
      cX13_go_96 n S3_ a0)
    else (
      (rv_gI S3_ 11 a0 4).bind fun x15_ =>
      (rv_pI S3_ 11 a0 6 x15_).bind fun S17_ =>
      (rv_pI S17_ 11 a0 7 (1 : Int32)).bind fun S19_ =>
      some S19_))
set_option maxRecDepth 20000 in
set_option maxHeartbeats 4000000 in
theorem eX13_go_52 (n : Nat) (S : rvS) (a0 : Nat) (S' : rvS) (h : cX13_go_52 n S a0 = some S') : rv_Ev mX13_go 1 52 [(0, .ref a0)] [] S none S' := by
  unfold cX13_go_52 at h
  refine re_aloadn (pc := 52) 0 (by decide +kernel : decode cX13_go 52 = .ok (.aload_n 0, 1)) rfl ?_
  refine re_aloadn (pc := 53) 0 (by decide +kernel : decode cX13_go 53 = .ok (.aload_n 0, 1)) rfl ?_
  obtain ⟨x1_, g2_, h⟩ := rv_b_e h
  refine re_gI (pc := 54) g2_ lfX13_112 rfl (by decide +kernel : decode cX13_go 54 = .ok (.getfield 112, 3)) ?_
  obtain ⟨S3_, g4_, h⟩ := rv_b_e h
  refine re_pI (pc := 57) g4_ lfX13_115 rfl rfl rfl rfl (by decide +kernel : decode cX13_go 57 = .ok (.putfield 115, 3)) ?_
  refine re_aloadn (pc := 60) 0 (by decide +kernel : decode cX13_go 60 = .ok (.aload_n 0, 1)) rfl ?_
  obtain ⟨x5_, g6_, h⟩ := rv_b_e h
  refine re_gI (pc := 61) g6_ lfX13_109 rfl (by decide +kernel : decode cX13_go 61 = .ok (.getfield 109, 3)) ?_
  refine re_aloadn (pc := 64) 0 (by decide +kernel : decode cX13_go 64 = .ok (.aload_n 0, 1)) rfl ?_
  obtain ⟨x7_, g8_, h⟩ := rv_b_e h
  refine re_gI (pc := 65) g8_ lfX13_118 rfl (by decide +kernel : decode cX13_go 65 = .ok (.getfield 118, 3)) ?_
  rcases rv_if_e h with ⟨g9_, h⟩ | ⟨g9_, h⟩
  · refine re_icmp_le_t (pc := 68) 96 (by decide +kernel : decode cX13_go 68 = .ok (.if_icmp .le 28, 3)) (by decide) g9_ ?_
    exact eX13_go_96 n S3_ a0 _ h
  · refine re_icmp_le_f (pc := 68) 96 (by decide +kernel : decode cX13_go 68 = .ok (.if_icmp .le 28, 3)) (by decide) g9_ ?_
    refine re_aloadn (pc := 71) 0 (by decide +kernel : decode cX13_go 71 = .ok (.aload_n 0, 1)) rfl ?_
    obtain ⟨x10_, g11_, h⟩ := rv_b_e h
    refine re_gI (pc := 72) g11_ lfX13_115 rfl (by decide +kernel : decode cX13_go 72 = .ok (.getfield 115, 3)) ?_
    refine re_aloadn (pc := 75) 0 (by decide +kernel : decode cX13_go 75 = .ok (.aload_n 0, 1)) rfl ?_
    obtain ⟨x12_, g13_, h⟩ := rv_b_e h
    refine re_gI (pc := 76) g13_ lfX13_118 rfl (by decide +kernel : decode cX13_go 76 = .ok (.getfield 118, 3)) ?_
    rcases rv_if_e h with ⟨g14_, h⟩ | ⟨g14_, h⟩
    · refine re_icmp_lt_t (pc := 79) 96 (by decide +kernel : decode cX13_go 79 = .ok (.if_icmp .lt 17, 3)) (by decide) g14_ ?_
      exact eX13_go_96 n S3_ a0 _ h
    · refine re_icmp_lt_f (pc := 79) 96 (by decide +kernel : decode cX13_go 79 = .ok (.if_icmp .lt 17, 3)) (by decide) g14_ ?_
      refine re_aloadn (pc := 82) 0 (by decide +kernel : decode cX13_go 82 = .ok (.aload_n 0, 1)) rfl ?_
      refine re_aloadn (pc := 83) 0 (by decide +kernel : decode cX13_go 83 = .ok (.aload_n 0, 1)) rfl ?_
      obtain ⟨x15_, g16_, h⟩ := rv_b_e h
      refine re_gI (pc := 84) g16_ lfX13_118 rfl (by decide +kernel : decode cX13_go 84 = .ok (.getfield 118, 3)) ?_
      obtain ⟨S17_, g18_, h⟩ := rv_b_e h
      refine re_pI (pc := 87) g18_ lfX13_115 rfl rfl rfl rfl (by decide +kernel : decode cX13_go 87 = .ok (.putfield 115, 3)) ?_
      refine re_aloadn (pc := 90) 0 (by decide +kernel : decode cX13_go 90 = .ok (.aload_n 0, 1)) rfl ?_
      refine re_iconst (pc := 91) (1 : Int32) (by decide +kernel : decode cX13_go 91 = .ok (.iconst 1, 1)) (by decide) ?_
      obtain ⟨S19_, g20_, h⟩ := rv_b_e h
      refine re_pI (pc := 92) g20_ lfX13_121 rfl rfl rfl rfl (by decide +kernel : decode cX13_go 92 = .ok (.putfield 121, 3)) ?_
      cases h
      exact re_vret (by decide +kernel : decode cX13_go 95 = .ok (.return_, 1))
noncomputable def cX13_go_0 (n : Nat) : Nat → rvS → Nat → Option rvS
  | 0, _, _ => none
  | k + 1, S, a0 =>
    (rv_gI S 11 a0 5).bind fun x1_ =>
    (rv_gI S 11 a0 3).bind fun x3_ =>
    if x3_ ≤ x1_ then (
      cX13_go_52 n S a0)
    else (
      (rv_gR S 11 a0 1).bind fun a6_ =>
      (rv_gI S 11 a0 5).bind fun x8_ =>
      (rv_aI S 0 a6_ x8_).bind fun x10_ =>
      if x10_ = (32 : Int32) then (
        cX13_go_39 n (fun a0 S => cX13_go_0 n k S a0) S a0)
      else (
        (rv_gR S 11 a0 1).bind fun a13_ =>
        (rv_gI S 11 a0 5).bind fun x15_ =>
        (rv_aI S 0 a13_ x15_).bind fun x17_ =>
        if x17_ = (10 : Int32) then (
          cX13_go_39 n (fun a0 S => cX13_go_0 n k S a0) S a0)
        else (
          cX13_go_52 n S a0)))
set_option maxRecDepth 20000 in
set_option maxHeartbeats 4000000 in
theorem eX13_go_0 (n : Nat) : ∀ (k : Nat) (S : rvS) (a0 : Nat) (S' : rvS), cX13_go_0 n k S a0 = some S' → rv_Ev mX13_go 1 0 [(0, .ref a0)] [] S none S' := by
  intro k
  induction k with
  | zero => intro S a0 S' h; exact absurd h (by simp [cX13_go_0])
  | succ k ih =>
    intro S a0 S' h
    unfold cX13_go_0 at h
    refine re_aloadn (pc := 0) 0 (by decide +kernel : decode cX13_go 0 = .ok (.aload_n 0, 1)) rfl ?_
    obtain ⟨x1_, g2_, h⟩ := rv_b_e h
    refine re_gI (pc := 1) g2_ lfX13_112 rfl (by decide +kernel : decode cX13_go 1 = .ok (.getfield 112, 3)) ?_
    refine re_aloadn (pc := 4) 0 (by decide +kernel : decode cX13_go 4 = .ok (.aload_n 0, 1)) rfl ?_
    obtain ⟨x3_, g4_, h⟩ := rv_b_e h
    refine re_gI (pc := 5) g4_ lfX13_109 rfl (by decide +kernel : decode cX13_go 5 = .ok (.getfield 109, 3)) ?_
    rcases rv_if_e h with ⟨g5_, h⟩ | ⟨g5_, h⟩
    · refine re_icmp_ge_t (pc := 8) 52 (by decide +kernel : decode cX13_go 8 = .ok (.if_icmp .ge 44, 3)) (by decide) g5_ ?_
      exact eX13_go_52 n S a0 _ h
    · refine re_icmp_ge_f (pc := 8) 52 (by decide +kernel : decode cX13_go 8 = .ok (.if_icmp .ge 44, 3)) (by decide) g5_ ?_
      refine re_aloadn (pc := 11) 0 (by decide +kernel : decode cX13_go 11 = .ok (.aload_n 0, 1)) rfl ?_
      obtain ⟨a6_, g7_, h⟩ := rv_b_e h
      refine re_gR (pc := 12) g7_ lfX13_7 rfl (by decide +kernel : decode cX13_go 12 = .ok (.getfield 7, 3)) ?_
      refine re_aloadn (pc := 15) 0 (by decide +kernel : decode cX13_go 15 = .ok (.aload_n 0, 1)) rfl ?_
      obtain ⟨x8_, g9_, h⟩ := rv_b_e h
      refine re_gI (pc := 16) g9_ lfX13_112 rfl (by decide +kernel : decode cX13_go 16 = .ok (.getfield 112, 3)) ?_
      obtain ⟨x10_, g11_, h⟩ := rv_b_e h
      refine re_aI (pc := 19) g11_ (by decide +kernel : decode cX13_go 19 = .ok (.iaload, 1)) ?_
      refine re_bipush (pc := 20) (32 : Int32) (by decide +kernel : decode cX13_go 20 = .ok (.bipush 32, 2)) (by decide) ?_
      rcases rv_if_e h with ⟨g12_, h⟩ | ⟨g12_, h⟩
      · refine re_icmp_eq_t (pc := 22) 39 (by decide +kernel : decode cX13_go 22 = .ok (.if_icmp .eq 17, 3)) (by decide) g12_ ?_
        exact eX13_go_39 n (fun a0 S => cX13_go_0 n k S a0) (fun a0 S _ h => ih S a0 _ h) S a0 _ h
      · refine re_icmp_eq_f (pc := 22) 39 (by decide +kernel : decode cX13_go 22 = .ok (.if_icmp .eq 17, 3)) (by decide) g12_ ?_
        refine re_aloadn (pc := 25) 0 (by decide +kernel : decode cX13_go 25 = .ok (.aload_n 0, 1)) rfl ?_
        obtain ⟨a13_, g14_, h⟩ := rv_b_e h
        refine re_gR (pc := 26) g14_ lfX13_7 rfl (by decide +kernel : decode cX13_go 26 = .ok (.getfield 7, 3)) ?_
        refine re_aloadn (pc := 29) 0 (by decide +kernel : decode cX13_go 29 = .ok (.aload_n 0, 1)) rfl ?_
        obtain ⟨x15_, g16_, h⟩ := rv_b_e h
        refine re_gI (pc := 30) g16_ lfX13_112 rfl (by decide +kernel : decode cX13_go 30 = .ok (.getfield 112, 3)) ?_
        obtain ⟨x17_, g18_, h⟩ := rv_b_e h
        refine re_aI (pc := 33) g18_ (by decide +kernel : decode cX13_go 33 = .ok (.iaload, 1)) ?_
        refine re_bipush (pc := 34) (10 : Int32) (by decide +kernel : decode cX13_go 34 = .ok (.bipush 10, 2)) (by decide) ?_
        rcases rv_if_e h with ⟨g19_, h⟩ | ⟨g19_, h⟩
        · refine re_icmp_ne_f (pc := 36) 52 (by decide +kernel : decode cX13_go 36 = .ok (.if_icmp .ne 16, 3)) (by decide) g19_ ?_
          exact eX13_go_39 n (fun a0 S => cX13_go_0 n k S a0) (fun a0 S _ h => ih S a0 _ h) S a0 _ h
        · refine re_icmp_ne_t (pc := 36) 52 (by decide +kernel : decode cX13_go 36 = .ok (.if_icmp .ne 16, 3)) (by decide) g19_ ?_
          exact eX13_go_52 n S a0 _ h
noncomputable def fnX13_go (n : Nat) (S : rvS) (a0 : Nat) : Option rvS :=
  cX13_go_0 n n S a0
set_option maxRecDepth 20000 in
set_option maxHeartbeats 4000000 in
theorem eX13_go_in (n : Nat) (S : rvS) (a0 : Nat) (S' : rvS) (h : fnX13_go n S a0 = some S') : rv_Ev mX13_go 1 0 [(0, .ref a0)] [] S none S' := by
  unfold fnX13_go at h
  exact eX13_go_0 n n S a0 _ h
theorem metX13_go (n : Nat) (S : rvS) (a0 : Nat) (S' : rvS) (h : fnX13_go n S a0 = some S') : rv_Met yX13_go mX13_go 1 [.ref a0] S none S' := rv_Met.of ⟨by decide +kernel, rfl, (fun z => by first | rfl | cases z), rfl⟩ (Nat.le_of_ble_eq_true rfl) rfl (eX13_go_in n S a0 S' h)
noncomputable def cX13_spelt_38 (n : Nat) (S : rvS) (x3 : Int32) (x4 : Int64) : Option Int64 :=
  if x3 ≤ 0 then (
    some x4)
  else (
    some ((((27 : Int64) * x4) + (x3.toInt64)) - (96 : Int64)))
set_option maxRecDepth 20000 in
set_option maxHeartbeats 4000000 in
theorem eX13_spelt_38 (n : Nat) (S : rvS) (x3 : Int32) (x4 : Int64) (r : Int64) (h : cX13_spelt_38 n S x3 x4 = some r) : rv_Ev mX13_spelt 0 38 [(3, .int x3), (4, .long x4)] [] S (some (.long r)) S := by
  unfold cX13_spelt_38 at h
  refine re_iloadn (pc := 38) 0 (by decide +kernel : decode cX13_spelt 38 = .ok (.iload_n 3, 1)) rfl ?_
  rcases rv_if_e h with ⟨g1_, h⟩ | ⟨g1_, h⟩
  · refine re_if_le_t (pc := 39) 58 (by decide +kernel : decode cX13_spelt 39 = .ok (.ifCond .le 19, 3)) (by decide) g1_ ?_
    refine re_lload (pc := 58) 1 (by decide +kernel : decode cX13_spelt 58 = .ok (.lload 4, 2)) rfl ?_
    cases h
    exact re_lret (by decide +kernel : decode cX13_spelt 60 = .ok (.lreturn, 1))
  · refine re_if_le_f (pc := 39) 58 (by decide +kernel : decode cX13_spelt 39 = .ok (.ifCond .le 19, 3)) (by decide) g1_ ?_
    refine re_ldc2 (pc := 42) (v := 27) (rw7 225 (by decide +kernel) rfl) (by decide +kernel : decode cX13_spelt 42 = .ok (.ldc2_w 145, 3)) ?_
    refine re_lload (pc := 45) 1 (by decide +kernel : decode cX13_spelt 45 = .ok (.lload 4, 2)) rfl ?_
    refine re_lmul (pc := 47) (by decide +kernel : decode cX13_spelt 47 = .ok (.lmul, 1)) ?_
    refine re_iloadn (pc := 48) 0 (by decide +kernel : decode cX13_spelt 48 = .ok (.iload_n 3, 1)) rfl ?_
    refine re_i2l (pc := 49) (by decide +kernel : decode cX13_spelt 49 = .ok (.i2l, 1)) ?_
    refine re_ladd (pc := 50) (by decide +kernel : decode cX13_spelt 50 = .ok (.ladd, 1)) ?_
    refine re_ldc2 (pc := 51) (v := 96) (rw7 226 (by decide +kernel) rfl) (by decide +kernel : decode cX13_spelt 51 = .ok (.ldc2_w 147, 3)) ?_
    refine re_lsub (pc := 54) (by decide +kernel : decode cX13_spelt 54 = .ok (.lsub, 1)) ?_
    refine re_goto (pc := 55) 60 (by decide +kernel : decode cX13_spelt 55 = .ok (.goto 5, 3)) (by decide) ?_
    cases h
    exact re_lret (by decide +kernel : decode cX13_spelt 60 = .ok (.lreturn, 1))
noncomputable def fnX13_spelt (n : Nat) (S : rvS) (x0 : Int32) (x1 : Int32) (x2 : Int32) (x3 : Int32) : Option Int64 :=
  rv_lt ((((27 : Int64) * ((x0.toInt64) - (96 : Int64))) + (x1.toInt64)) - (96 : Int64)) fun x1_ =>
  if x2 ≤ 0 then (
    cX13_spelt_38 n S x3 x1_)
  else (
    rv_lt ((((27 : Int64) * x1_) + (x2.toInt64)) - (96 : Int64)) fun x4_ =>
    cX13_spelt_38 n S x3 x4_)
set_option maxRecDepth 20000 in
set_option maxHeartbeats 4000000 in
theorem eX13_spelt_in (n : Nat) (S : rvS) (x0 : Int32) (x1 : Int32) (x2 : Int32) (x3 : Int32) (r : Int64) (h : fnX13_spelt n S x0 x1 x2 x3 = some r) : rv_Ev mX13_spelt 0 0 [(0, .int x0), (1, .int x1), (2, .int x2), (3, .int x3)] [] S (some (.long r)) S := by
  unfold fnX13_spelt at h
  refine re_ldc2 (pc := 0) (v := 27) (rw7 225 (by decide +kernel) rfl) (by decide +kernel : decode cX13_spelt 0 = .ok (.ldc2_w 145, 3)) ?_
  refine re_iloadn (pc := 3) 0 (by decide +kernel : decode cX13_spelt 3 = .ok (.iload_n 0, 1)) rfl ?_
  refine re_i2l (pc := 4) (by decide +kernel : decode cX13_spelt 4 = .ok (.i2l, 1)) ?_
  refine re_ldc2 (pc := 5) (v := 96) (rw7 226 (by decide +kernel) rfl) (by decide +kernel : decode cX13_spelt 5 = .ok (.ldc2_w 147, 3)) ?_
  refine re_lsub (pc := 8) (by decide +kernel : decode cX13_spelt 8 = .ok (.lsub, 1)) ?_
  refine re_lmul (pc := 9) (by decide +kernel : decode cX13_spelt 9 = .ok (.lmul, 1)) ?_
  refine re_iloadn (pc := 10) 1 (by decide +kernel : decode cX13_spelt 10 = .ok (.iload_n 1, 1)) rfl ?_
  refine re_i2l (pc := 11) (by decide +kernel : decode cX13_spelt 11 = .ok (.i2l, 1)) ?_
  refine re_ladd (pc := 12) (by decide +kernel : decode cX13_spelt 12 = .ok (.ladd, 1)) ?_
  refine re_ldc2 (pc := 13) (v := 96) (rw7 226 (by decide +kernel) rfl) (by decide +kernel : decode cX13_spelt 13 = .ok (.ldc2_w 147, 3)) ?_
  refine re_lsub (pc := 16) (by decide +kernel : decode cX13_spelt 16 = .ok (.lsub, 1)) ?_
  obtain ⟨x1_, g2_, h⟩ := rv_lt_e h
  refine re_nL (pc := 17) g2_ ?_
  refine re_lstore (pc := 17) (lv1 := [(4, .long x1_), (0, .int x0), (1, .int x1), (2, .int x2), (3, .int x3)]) (by decide +kernel : decode cX13_spelt 17 = .ok (.lstore 4, 2)) (by decide) rfl ?_
  refine re_iloadn (pc := 19) 3 (by decide +kernel : decode cX13_spelt 19 = .ok (.iload_n 2, 1)) rfl ?_
  rcases rv_if_e h with ⟨g3_, h⟩ | ⟨g3_, h⟩
  · refine re_if_le_t (pc := 20) 38 (by decide +kernel : decode cX13_spelt 20 = .ok (.ifCond .le 18, 3)) (by decide) g3_ ?_
    refine re_sub [4, 0] (lv1 := [(3, .int x3), (4, .long x1_)]) rfl ?_
    exact eX13_spelt_38 n S x3 x1_ _ h
  · refine re_if_le_f (pc := 20) 38 (by decide +kernel : decode cX13_spelt 20 = .ok (.ifCond .le 18, 3)) (by decide) g3_ ?_
    refine re_ldc2 (pc := 23) (v := 27) (rw7 225 (by decide +kernel) rfl) (by decide +kernel : decode cX13_spelt 23 = .ok (.ldc2_w 145, 3)) ?_
    refine re_lload (pc := 26) 0 (by decide +kernel : decode cX13_spelt 26 = .ok (.lload 4, 2)) rfl ?_
    refine re_lmul (pc := 28) (by decide +kernel : decode cX13_spelt 28 = .ok (.lmul, 1)) ?_
    refine re_iloadn (pc := 29) 3 (by decide +kernel : decode cX13_spelt 29 = .ok (.iload_n 2, 1)) rfl ?_
    refine re_i2l (pc := 30) (by decide +kernel : decode cX13_spelt 30 = .ok (.i2l, 1)) ?_
    refine re_ladd (pc := 31) (by decide +kernel : decode cX13_spelt 31 = .ok (.ladd, 1)) ?_
    refine re_ldc2 (pc := 32) (v := 96) (rw7 226 (by decide +kernel) rfl) (by decide +kernel : decode cX13_spelt 32 = .ok (.ldc2_w 147, 3)) ?_
    refine re_lsub (pc := 35) (by decide +kernel : decode cX13_spelt 35 = .ok (.lsub, 1)) ?_
    obtain ⟨x4_, g5_, h⟩ := rv_lt_e h
    refine re_nL (pc := 36) g5_ ?_
    refine re_lstore (pc := 36) (lv1 := [(4, .long x4_), (0, .int x0), (1, .int x1), (2, .int x2), (3, .int x3)]) (by decide +kernel : decode cX13_spelt 36 = .ok (.lstore 4, 2)) (by decide) rfl ?_
    refine re_sub [4, 0] (lv1 := [(3, .int x3), (4, .long x4_)]) rfl ?_
    exact eX13_spelt_38 n S x3 x4_ _ h
theorem metX13_spelt (n : Nat) (S : rvS) (x0 : Int32) (x1 : Int32) (x2 : Int32) (x3 : Int32) (r : Int64) (h : fnX13_spelt n S x0 x1 x2 x3 = some r) : rv_Met yX13_spelt mX13_spelt 0 [.int x0, .int x1, .int x2, .int x3] S (some (.long r)) S := rv_Met.of ⟨by decide +kernel, rfl, (fun z => by first | rfl | cases z), rfl⟩ (Nat.le_of_ble_eq_true rfl) rfl (eX13_spelt_in n S x0 x1 x2 x3 r h)
noncomputable def cX13_on_54 (n : Nat) (S : rvS) (x5 : Int32) (x6 : Int64) : Option Int64 :=
  if x5 ≤ 0 then (
    some x6)
  else (
    some ((((27 : Int64) * x6) + (x5.toInt64)) - (96 : Int64)))
set_option maxRecDepth 20000 in
set_option maxHeartbeats 4000000 in
theorem eX13_on_54 (n : Nat) (S : rvS) (x5 : Int32) (x6 : Int64) (r : Int64) (h : cX13_on_54 n S x5 x6 = some r) : rv_Ev mX13_on 0 54 [(5, .int x5), (6, .long x6)] [] S (some (.long r)) S := by
  unfold cX13_on_54 at h
  refine re_iload (pc := 54) 0 (by decide +kernel : decode cX13_on 54 = .ok (.iload 5, 2)) rfl ?_
  rcases rv_if_e h with ⟨g1_, h⟩ | ⟨g1_, h⟩
  · refine re_if_le_t (pc := 56) 76 (by decide +kernel : decode cX13_on 56 = .ok (.ifCond .le 20, 3)) (by decide) g1_ ?_
    refine re_lload (pc := 76) 1 (by decide +kernel : decode cX13_on 76 = .ok (.lload 6, 2)) rfl ?_
    cases h
    exact re_lret (by decide +kernel : decode cX13_on 78 = .ok (.lreturn, 1))
  · refine re_if_le_f (pc := 56) 76 (by decide +kernel : decode cX13_on 56 = .ok (.ifCond .le 20, 3)) (by decide) g1_ ?_
    refine re_ldc2 (pc := 59) (v := 27) (rw7 225 (by decide +kernel) rfl) (by decide +kernel : decode cX13_on 59 = .ok (.ldc2_w 145, 3)) ?_
    refine re_lload (pc := 62) 1 (by decide +kernel : decode cX13_on 62 = .ok (.lload 6, 2)) rfl ?_
    refine re_lmul (pc := 64) (by decide +kernel : decode cX13_on 64 = .ok (.lmul, 1)) ?_
    refine re_iload (pc := 65) 0 (by decide +kernel : decode cX13_on 65 = .ok (.iload 5, 2)) rfl ?_
    refine re_i2l (pc := 67) (by decide +kernel : decode cX13_on 67 = .ok (.i2l, 1)) ?_
    refine re_ladd (pc := 68) (by decide +kernel : decode cX13_on 68 = .ok (.ladd, 1)) ?_
    refine re_ldc2 (pc := 69) (v := 96) (rw7 226 (by decide +kernel) rfl) (by decide +kernel : decode cX13_on 69 = .ok (.ldc2_w 147, 3)) ?_
    refine re_lsub (pc := 72) (by decide +kernel : decode cX13_on 72 = .ok (.lsub, 1)) ?_
    refine re_goto (pc := 73) 78 (by decide +kernel : decode cX13_on 73 = .ok (.goto 5, 3)) (by decide) ?_
    cases h
    exact re_lret (by decide +kernel : decode cX13_on 78 = .ok (.lreturn, 1))
noncomputable def cX13_on_33 (n : Nat) (S : rvS) (x4 : Int32) (x5 : Int32) (x6 : Int64) : Option Int64 :=
  if x4 ≤ 0 then (
    cX13_on_54 n S x5 x6)
  else (
    rv_lt ((((27 : Int64) * x6) + (x4.toInt64)) - (96 : Int64)) fun x2_ =>
    cX13_on_54 n S x5 x2_)
set_option maxRecDepth 20000 in
set_option maxHeartbeats 4000000 in
theorem eX13_on_33 (n : Nat) (S : rvS) (x4 : Int32) (x5 : Int32) (x6 : Int64) (r : Int64) (h : cX13_on_33 n S x4 x5 x6 = some r) : rv_Ev mX13_on 0 33 [(4, .int x4), (5, .int x5), (6, .long x6)] [] S (some (.long r)) S := by
  unfold cX13_on_33 at h
  refine re_iload (pc := 33) 0 (by decide +kernel : decode cX13_on 33 = .ok (.iload 4, 2)) rfl ?_
  rcases rv_if_e h with ⟨g1_, h⟩ | ⟨g1_, h⟩
  · refine re_if_le_t (pc := 35) 54 (by decide +kernel : decode cX13_on 35 = .ok (.ifCond .le 19, 3)) (by decide) g1_ ?_
    refine re_sub [1, 2] (lv1 := [(5, .int x5), (6, .long x6)]) rfl ?_
    exact eX13_on_54 n S x5 x6 _ h
  · refine re_if_le_f (pc := 35) 54 (by decide +kernel : decode cX13_on 35 = .ok (.ifCond .le 19, 3)) (by decide) g1_ ?_
    refine re_ldc2 (pc := 38) (v := 27) (rw7 225 (by decide +kernel) rfl) (by decide +kernel : decode cX13_on 38 = .ok (.ldc2_w 145, 3)) ?_
    refine re_lload (pc := 41) 2 (by decide +kernel : decode cX13_on 41 = .ok (.lload 6, 2)) rfl ?_
    refine re_lmul (pc := 43) (by decide +kernel : decode cX13_on 43 = .ok (.lmul, 1)) ?_
    refine re_iload (pc := 44) 0 (by decide +kernel : decode cX13_on 44 = .ok (.iload 4, 2)) rfl ?_
    refine re_i2l (pc := 46) (by decide +kernel : decode cX13_on 46 = .ok (.i2l, 1)) ?_
    refine re_ladd (pc := 47) (by decide +kernel : decode cX13_on 47 = .ok (.ladd, 1)) ?_
    refine re_ldc2 (pc := 48) (v := 96) (rw7 226 (by decide +kernel) rfl) (by decide +kernel : decode cX13_on 48 = .ok (.ldc2_w 147, 3)) ?_
    refine re_lsub (pc := 51) (by decide +kernel : decode cX13_on 51 = .ok (.lsub, 1)) ?_
    obtain ⟨x2_, g3_, h⟩ := rv_lt_e h
    refine re_nL (pc := 52) g3_ ?_
    refine re_lstore (pc := 52) (lv1 := [(6, .long x2_), (4, .int x4), (5, .int x5)]) (by decide +kernel : decode cX13_on 52 = .ok (.lstore 6, 2)) (by decide) rfl ?_
    refine re_sub [2, 0] (lv1 := [(5, .int x5), (6, .long x2_)]) rfl ?_
    exact eX13_on_54 n S x5 x2_ _ h
noncomputable def fnX13_on (n : Nat) (S : rvS) (x0 : Int64) (x2 : Int32) (x3 : Int32) (x4 : Int32) (x5 : Int32) : Option Int64 :=
  rv_lt ((((27 : Int64) * x0) + (x2.toInt64)) - (96 : Int64)) fun x1_ =>
  if x3 ≤ 0 then (
    cX13_on_33 n S x4 x5 x1_)
  else (
    rv_lt ((((27 : Int64) * x1_) + (x3.toInt64)) - (96 : Int64)) fun x4_ =>
    cX13_on_33 n S x4 x5 x4_)
set_option maxRecDepth 20000 in
set_option maxHeartbeats 4000000 in
theorem eX13_on_in (n : Nat) (S : rvS) (x0 : Int64) (x2 : Int32) (x3 : Int32) (x4 : Int32) (x5 : Int32) (r : Int64) (h : fnX13_on n S x0 x2 x3 x4 x5 = some r) : rv_Ev mX13_on 0 0 [(0, .long x0), (2, .int x2), (3, .int x3), (4, .int x4), (5, .int x5)] [] S (some (.long r)) S := by
  unfold fnX13_on at h
  refine re_ldc2 (pc := 0) (v := 27) (rw7 225 (by decide +kernel) rfl) (by decide +kernel : decode cX13_on 0 = .ok (.ldc2_w 145, 3)) ?_
  refine re_lloadn (pc := 3) 0 (by decide +kernel : decode cX13_on 3 = .ok (.lload_n 0, 1)) rfl ?_
  refine re_lmul (pc := 4) (by decide +kernel : decode cX13_on 4 = .ok (.lmul, 1)) ?_
  refine re_iloadn (pc := 5) 1 (by decide +kernel : decode cX13_on 5 = .ok (.iload_n 2, 1)) rfl ?_
  refine re_i2l (pc := 6) (by decide +kernel : decode cX13_on 6 = .ok (.i2l, 1)) ?_
  refine re_ladd (pc := 7) (by decide +kernel : decode cX13_on 7 = .ok (.ladd, 1)) ?_
  refine re_ldc2 (pc := 8) (v := 96) (rw7 226 (by decide +kernel) rfl) (by decide +kernel : decode cX13_on 8 = .ok (.ldc2_w 147, 3)) ?_
  refine re_lsub (pc := 11) (by decide +kernel : decode cX13_on 11 = .ok (.lsub, 1)) ?_
  obtain ⟨x1_, g2_, h⟩ := rv_lt_e h
  refine re_nL (pc := 12) g2_ ?_
  refine re_lstore (pc := 12) (lv1 := [(6, .long x1_), (0, .long x0), (2, .int x2), (3, .int x3), (4, .int x4), (5, .int x5)]) (by decide +kernel : decode cX13_on 12 = .ok (.lstore 6, 2)) (by decide) rfl ?_
  refine re_iloadn (pc := 14) 3 (by decide +kernel : decode cX13_on 14 = .ok (.iload_n 3, 1)) rfl ?_
  rcases rv_if_e h with ⟨g3_, h⟩ | ⟨g3_, h⟩
  · refine re_if_le_t (pc := 15) 33 (by decide +kernel : decode cX13_on 15 = .ok (.ifCond .le 18, 3)) (by decide) g3_ ?_
    refine re_sub [4, 5, 0] (lv1 := [(4, .int x4), (5, .int x5), (6, .long x1_)]) rfl ?_
    exact eX13_on_33 n S x4 x5 x1_ _ h
  · refine re_if_le_f (pc := 15) 33 (by decide +kernel : decode cX13_on 15 = .ok (.ifCond .le 18, 3)) (by decide) g3_ ?_
    refine re_ldc2 (pc := 18) (v := 27) (rw7 225 (by decide +kernel) rfl) (by decide +kernel : decode cX13_on 18 = .ok (.ldc2_w 145, 3)) ?_
    refine re_lload (pc := 21) 0 (by decide +kernel : decode cX13_on 21 = .ok (.lload 6, 2)) rfl ?_
    refine re_lmul (pc := 23) (by decide +kernel : decode cX13_on 23 = .ok (.lmul, 1)) ?_
    refine re_iloadn (pc := 24) 3 (by decide +kernel : decode cX13_on 24 = .ok (.iload_n 3, 1)) rfl ?_
    refine re_i2l (pc := 25) (by decide +kernel : decode cX13_on 25 = .ok (.i2l, 1)) ?_
    refine re_ladd (pc := 26) (by decide +kernel : decode cX13_on 26 = .ok (.ladd, 1)) ?_
    refine re_ldc2 (pc := 27) (v := 96) (rw7 226 (by decide +kernel) rfl) (by decide +kernel : decode cX13_on 27 = .ok (.ldc2_w 147, 3)) ?_
    refine re_lsub (pc := 30) (by decide +kernel : decode cX13_on 30 = .ok (.lsub, 1)) ?_
    obtain ⟨x4_, g5_, h⟩ := rv_lt_e h
    refine re_nL (pc := 31) g5_ ?_
    refine re_lstore (pc := 31) (lv1 := [(6, .long x4_), (0, .long x0), (2, .int x2), (3, .int x3), (4, .int x4), (5, .int x5)]) (by decide +kernel : decode cX13_on 31 = .ok (.lstore 6, 2)) (by decide) rfl ?_
    refine re_sub [4, 5, 0] (lv1 := [(4, .int x4), (5, .int x5), (6, .long x4_)]) rfl ?_
    exact eX13_on_33 n S x4 x5 x4_ _ h
theorem metX13_on (n : Nat) (S : rvS) (x0 : Int64) (x2 : Int32) (x3 : Int32) (x4 : Int32) (x5 : Int32) (r : Int64) (h : fnX13_on n S x0 x2 x3 x4 x5 = some r) : rv_Met yX13_on mX13_on 0 [.long x0, .int x2, .int x3, .int x4, .int x5] S (some (.long r)) S := rv_Met.of ⟨by decide +kernel, rfl, (fun z => by first | rfl | cases z), rfl⟩ (Nat.le_of_ble_eq_true rfl) rfl (eX13_on_in n S x0 x2 x3 x4 x5 r h)
noncomputable def fnX13_wordOf (n : Nat) (S : rvS) (x0 : Int32) : Option Int64 :=
  if x0 = 0 then (
    (fnX13_spelt n S (114 : Int32) (105 : Int32) (109 : Int32) (0 : Int32)).bind fun x3_ =>
    some x3_)
  else (
    if x0 = 1 then (
      (fnX13_spelt n S (119 : Int32) (104 : Int32) (111 : Int32) (0 : Int32)).bind fun x7_ =>
      some x7_)
    else (
      if x0 = 2 then (
        (fnX13_spelt n S (114 : Int32) (111 : Int32) (97 : Int32) (100 : Int32)).bind fun x11_ =>
        some x11_)
      else (
        if x0 = 3 then (
          (fnX13_spelt n S (99 : Int32) (111 : Int32) (105 : Int32) (110 : Int32)).bind fun x15_ =>
          some x15_)
        else (
          if x0 = 4 then (
            (fnX13_spelt n S (111 : Int32) (119 : Int32) (101 : Int32) (115 : Int32)).bind fun x19_ =>
            some x19_)
          else (
            if x0 = 5 then (
              (fnX13_spelt n S (115 : Int32) (116 : Int32) (114 : Int32) (97 : Int32)).bind fun x23_ =>
              (fnX13_on n S x23_ (110 : Int32) (103 : Int32) (101 : Int32) (114 : Int32)).bind fun x26_ =>
              some x26_)
            else (
              if x0 = 6 then (
                (fnX13_spelt n S (102 : Int32) (101 : Int32) (101 : Int32) (0 : Int32)).bind fun x30_ =>
                some x30_)
              else (
                if x0 = 7 then (
                  (fnX13_spelt n S (100 : Int32) (101 : Int32) (97 : Int32) (100 : Int32)).bind fun x34_ =>
                  some x34_)
                else (
                  if x0 = 8 then (
                    (fnX13_spelt n S (114 : Int32) (117 : Int32) (98 : Int32) (98 : Int32)).bind fun x38_ =>
                    (fnX13_on n S x38_ (101 : Int32) (100 : Int32) (0 : Int32) (0 : Int32)).bind fun x41_ =>
                    some x41_)
                  else (
                    if x0 = 9 then (
                      (fnX13_spelt n S (115 : Int32) (116 : Int32) (97 : Int32) (121 : Int32)).bind fun x45_ =>
                      (fnX13_on n S x45_ (115 : Int32) (0 : Int32) (0 : Int32) (0 : Int32)).bind fun x48_ =>
                      some x48_)
                    else (
                      if x0 = 10 then (
                        (fnX13_spelt n S (104 : Int32) (101 : Int32) (105 : Int32) (114 : Int32)).bind fun x52_ =>
                        (fnX13_on n S x52_ (115 : Int32) (0 : Int32) (0 : Int32) (0 : Int32)).bind fun x55_ =>
                        some x55_)
                      else (
                        if x0 = 11 then (
                          (fnX13_spelt n S (111 : Int32) (114 : Int32) (0 : Int32) (0 : Int32)).bind fun x59_ =>
                          some x59_)
                        else (
                          if x0 = 12 then (
                            (fnX13_spelt n S (97 : Int32) (110 : Int32) (100 : Int32) (0 : Int32)).bind fun x63_ =>
                            some x63_)
                          else (
                            if x0 = 13 then (
                              (fnX13_spelt n S (110 : Int32) (111 : Int32) (116 : Int32) (0 : Int32)).bind fun x67_ =>
                              some x67_)
                            else (
                              if x0 = 14 then (
                                (fnX13_spelt n S (104 : Int32) (101 : Int32) (108 : Int32) (100 : Int32)).bind fun x71_ =>
                                some x71_)
                              else (
                                if x0 = 15 then (
                                  (fnX13_spelt n S (98 : Int32) (101 : Int32) (97 : Int32) (114 : Int32)).bind fun x75_ =>
                                  (fnX13_on n S x75_ (115 : Int32) (0 : Int32) (0 : Int32) (0 : Int32)).bind fun x78_ =>
                                  some x78_)
                                else (
                                  if x0 = 16 then (
                                    (fnX13_spelt n S (103 : Int32) (111 : Int32) (101 : Int32) (115 : Int32)).bind fun x82_ =>
                                    some x82_)
                                  else (
                                    if x0 = 17 then (
                                      (fnX13_spelt n S (115 : Int32) (116 : Int32) (117 : Int32) (99 : Int32)).bind fun x86_ =>
                                      (fnX13_on n S x86_ (107 : Int32) (0 : Int32) (0 : Int32) (0 : Int32)).bind fun x89_ =>
                                      some x89_)
                                    else (
                                      if x0 = 18 then (
                                        (fnX13_spelt n S (102 : Int32) (111 : Int32) (114 : Int32) (103 : Int32)).bind fun x93_ =>
                                        (fnX13_on n S x93_ (101 : Int32) (100 : Int32) (0 : Int32) (0 : Int32)).bind fun x96_ =>
                                        some x96_)
                                      else (
                                        if x0 = 19 then (
                                          (fnX13_spelt n S (118 : Int32) (97 : Int32) (108 : Int32) (117 : Int32)).bind fun x100_ =>
                                          (fnX13_on n S x100_ (101 : Int32) (0 : Int32) (0 : Int32) (0 : Int32)).bind fun x103_ =>
                                          some x103_)
                                        else (
                                          if x0 = 20 then (
                                            (fnX13_spelt n S (110 : Int32) (97 : Int32) (109 : Int32) (101 : Int32)).bind fun x107_ =>
                                            (fnX13_on n S x107_ (115 : Int32) (0 : Int32) (0 : Int32) (0 : Int32)).bind fun x110_ =>
                                            some x110_)
                                          else (
                                            (fnX13_spelt n S (112 : Int32) (108 : Int32) (97 : Int32) (99 : Int32)).bind fun x113_ =>
                                            (fnX13_on n S x113_ (101 : Int32) (0 : Int32) (0 : Int32) (0 : Int32)).bind fun x116_ =>
                                            some x116_)))))))))))))))))))))
set_option maxRecDepth 20000 in
set_option maxHeartbeats 4000000 in
theorem eX13_wordOf_in (n : Nat) (S : rvS) (x0 : Int32) (r : Int64) (h : fnX13_wordOf n S x0 = some r) : rv_Ev mX13_wordOf 1 0 [(0, .int x0)] [] S (some (.long r)) S := by
  unfold fnX13_wordOf at h
  refine re_iloadn (pc := 0) 0 (by decide +kernel : decode cX13_wordOf 0 = .ok (.iload_n 0, 1)) rfl ?_
  rcases rv_if_e h with ⟨g1_, h⟩ | ⟨g1_, h⟩
  · refine re_tabInE (pc := 1) (off := 99) 100 (by decide +kernel : decode cX13_wordOf 1 = .ok (.tableswitch 421 0 20 #[99, 110, 121, 133, 145, 157, 180, 191, 203, 224, 244, 264, 274, 285, 296, 308, 328, 340, 360, 381, 401], 99)) g1_ (by decide) (by decide) (by decide) (by decide) ?_
    refine re_bipush (pc := 100) (114 : Int32) (by decide +kernel : decode cX13_wordOf 100 = .ok (.bipush 114, 2)) (by decide) ?_
    refine re_bipush (pc := 102) (105 : Int32) (by decide +kernel : decode cX13_wordOf 102 = .ok (.bipush 105, 2)) (by decide) ?_
    refine re_bipush (pc := 104) (109 : Int32) (by decide +kernel : decode cX13_wordOf 104 = .ok (.bipush 109, 2)) (by decide) ?_
    refine re_iconst (pc := 106) (0 : Int32) (by decide +kernel : decode cX13_wordOf 106 = .ok (.iconst 0, 1)) (by decide) ?_
    obtain ⟨x3_, g4_, h⟩ := rv_b_e h
    have m2_ := metX13_spelt n S (114 : Int32) (105 : Int32) (109 : Int32) (0 : Int32) _ g4_
    refine re_cS (pc := 107) [.int (114 : Int32), .int (105 : Int32), .int (109 : Int32), .int (0 : Int32)] m2_ (rv_okl.k ⟨rfl, rfl⟩) (rv_up.rf _ _) (by decide) (Nat.le_of_ble_eq_true rfl) lSX13_149 rfl (by decide +kernel : decode cX13_wordOf 107 = .ok (.invokestatic 149, 3)) ?_
    cases h
    exact re_lret (by decide +kernel : decode cX13_wordOf 110 = .ok (.lreturn, 1))
  · skip
    rcases rv_if_e h with ⟨g5_, h⟩ | ⟨g5_, h⟩
    · refine re_tabInE (pc := 1) (off := 110) 111 (by decide +kernel : decode cX13_wordOf 1 = .ok (.tableswitch 421 0 20 #[99, 110, 121, 133, 145, 157, 180, 191, 203, 224, 244, 264, 274, 285, 296, 308, 328, 340, 360, 381, 401], 99)) g5_ (by decide) (by decide) (by decide) (by decide) ?_
      refine re_bipush (pc := 111) (119 : Int32) (by decide +kernel : decode cX13_wordOf 111 = .ok (.bipush 119, 2)) (by decide) ?_
      refine re_bipush (pc := 113) (104 : Int32) (by decide +kernel : decode cX13_wordOf 113 = .ok (.bipush 104, 2)) (by decide) ?_
      refine re_bipush (pc := 115) (111 : Int32) (by decide +kernel : decode cX13_wordOf 115 = .ok (.bipush 111, 2)) (by decide) ?_
      refine re_iconst (pc := 117) (0 : Int32) (by decide +kernel : decode cX13_wordOf 117 = .ok (.iconst 0, 1)) (by decide) ?_
      obtain ⟨x7_, g8_, h⟩ := rv_b_e h
      have m6_ := metX13_spelt n S (119 : Int32) (104 : Int32) (111 : Int32) (0 : Int32) _ g8_
      refine re_cS (pc := 118) [.int (119 : Int32), .int (104 : Int32), .int (111 : Int32), .int (0 : Int32)] m6_ (rv_okl.k ⟨rfl, rfl⟩) (rv_up.rf _ _) (by decide) (Nat.le_of_ble_eq_true rfl) lSX13_149 rfl (by decide +kernel : decode cX13_wordOf 118 = .ok (.invokestatic 149, 3)) ?_
      cases h
      exact re_lret (by decide +kernel : decode cX13_wordOf 121 = .ok (.lreturn, 1))
    · skip
      rcases rv_if_e h with ⟨g9_, h⟩ | ⟨g9_, h⟩
      · refine re_tabInE (pc := 1) (off := 121) 122 (by decide +kernel : decode cX13_wordOf 1 = .ok (.tableswitch 421 0 20 #[99, 110, 121, 133, 145, 157, 180, 191, 203, 224, 244, 264, 274, 285, 296, 308, 328, 340, 360, 381, 401], 99)) g9_ (by decide) (by decide) (by decide) (by decide) ?_
        refine re_bipush (pc := 122) (114 : Int32) (by decide +kernel : decode cX13_wordOf 122 = .ok (.bipush 114, 2)) (by decide) ?_
        refine re_bipush (pc := 124) (111 : Int32) (by decide +kernel : decode cX13_wordOf 124 = .ok (.bipush 111, 2)) (by decide) ?_
        refine re_bipush (pc := 126) (97 : Int32) (by decide +kernel : decode cX13_wordOf 126 = .ok (.bipush 97, 2)) (by decide) ?_
        refine re_bipush (pc := 128) (100 : Int32) (by decide +kernel : decode cX13_wordOf 128 = .ok (.bipush 100, 2)) (by decide) ?_
        obtain ⟨x11_, g12_, h⟩ := rv_b_e h
        have m10_ := metX13_spelt n S (114 : Int32) (111 : Int32) (97 : Int32) (100 : Int32) _ g12_
        refine re_cS (pc := 130) [.int (114 : Int32), .int (111 : Int32), .int (97 : Int32), .int (100 : Int32)] m10_ (rv_okl.k ⟨rfl, rfl⟩) (rv_up.rf _ _) (by decide) (Nat.le_of_ble_eq_true rfl) lSX13_149 rfl (by decide +kernel : decode cX13_wordOf 130 = .ok (.invokestatic 149, 3)) ?_
        cases h
        exact re_lret (by decide +kernel : decode cX13_wordOf 133 = .ok (.lreturn, 1))
      · skip
        rcases rv_if_e h with ⟨g13_, h⟩ | ⟨g13_, h⟩
        · refine re_tabInE (pc := 1) (off := 133) 134 (by decide +kernel : decode cX13_wordOf 1 = .ok (.tableswitch 421 0 20 #[99, 110, 121, 133, 145, 157, 180, 191, 203, 224, 244, 264, 274, 285, 296, 308, 328, 340, 360, 381, 401], 99)) g13_ (by decide) (by decide) (by decide) (by decide) ?_
          refine re_bipush (pc := 134) (99 : Int32) (by decide +kernel : decode cX13_wordOf 134 = .ok (.bipush 99, 2)) (by decide) ?_
          refine re_bipush (pc := 136) (111 : Int32) (by decide +kernel : decode cX13_wordOf 136 = .ok (.bipush 111, 2)) (by decide) ?_
          refine re_bipush (pc := 138) (105 : Int32) (by decide +kernel : decode cX13_wordOf 138 = .ok (.bipush 105, 2)) (by decide) ?_
          refine re_bipush (pc := 140) (110 : Int32) (by decide +kernel : decode cX13_wordOf 140 = .ok (.bipush 110, 2)) (by decide) ?_
          obtain ⟨x15_, g16_, h⟩ := rv_b_e h
          have m14_ := metX13_spelt n S (99 : Int32) (111 : Int32) (105 : Int32) (110 : Int32) _ g16_
          refine re_cS (pc := 142) [.int (99 : Int32), .int (111 : Int32), .int (105 : Int32), .int (110 : Int32)] m14_ (rv_okl.k ⟨rfl, rfl⟩) (rv_up.rf _ _) (by decide) (Nat.le_of_ble_eq_true rfl) lSX13_149 rfl (by decide +kernel : decode cX13_wordOf 142 = .ok (.invokestatic 149, 3)) ?_
          cases h
          exact re_lret (by decide +kernel : decode cX13_wordOf 145 = .ok (.lreturn, 1))
        · skip
          rcases rv_if_e h with ⟨g17_, h⟩ | ⟨g17_, h⟩
          · refine re_tabInE (pc := 1) (off := 145) 146 (by decide +kernel : decode cX13_wordOf 1 = .ok (.tableswitch 421 0 20 #[99, 110, 121, 133, 145, 157, 180, 191, 203, 224, 244, 264, 274, 285, 296, 308, 328, 340, 360, 381, 401], 99)) g17_ (by decide) (by decide) (by decide) (by decide) ?_
            refine re_bipush (pc := 146) (111 : Int32) (by decide +kernel : decode cX13_wordOf 146 = .ok (.bipush 111, 2)) (by decide) ?_
            refine re_bipush (pc := 148) (119 : Int32) (by decide +kernel : decode cX13_wordOf 148 = .ok (.bipush 119, 2)) (by decide) ?_
            refine re_bipush (pc := 150) (101 : Int32) (by decide +kernel : decode cX13_wordOf 150 = .ok (.bipush 101, 2)) (by decide) ?_
            refine re_bipush (pc := 152) (115 : Int32) (by decide +kernel : decode cX13_wordOf 152 = .ok (.bipush 115, 2)) (by decide) ?_
            obtain ⟨x19_, g20_, h⟩ := rv_b_e h
            have m18_ := metX13_spelt n S (111 : Int32) (119 : Int32) (101 : Int32) (115 : Int32) _ g20_
            refine re_cS (pc := 154) [.int (111 : Int32), .int (119 : Int32), .int (101 : Int32), .int (115 : Int32)] m18_ (rv_okl.k ⟨rfl, rfl⟩) (rv_up.rf _ _) (by decide) (Nat.le_of_ble_eq_true rfl) lSX13_149 rfl (by decide +kernel : decode cX13_wordOf 154 = .ok (.invokestatic 149, 3)) ?_
            cases h
            exact re_lret (by decide +kernel : decode cX13_wordOf 157 = .ok (.lreturn, 1))
          · skip
            rcases rv_if_e h with ⟨g21_, h⟩ | ⟨g21_, h⟩
            · refine re_tabInE (pc := 1) (off := 157) 158 (by decide +kernel : decode cX13_wordOf 1 = .ok (.tableswitch 421 0 20 #[99, 110, 121, 133, 145, 157, 180, 191, 203, 224, 244, 264, 274, 285, 296, 308, 328, 340, 360, 381, 401], 99)) g21_ (by decide) (by decide) (by decide) (by decide) ?_
              refine re_bipush (pc := 158) (115 : Int32) (by decide +kernel : decode cX13_wordOf 158 = .ok (.bipush 115, 2)) (by decide) ?_
              refine re_bipush (pc := 160) (116 : Int32) (by decide +kernel : decode cX13_wordOf 160 = .ok (.bipush 116, 2)) (by decide) ?_
              refine re_bipush (pc := 162) (114 : Int32) (by decide +kernel : decode cX13_wordOf 162 = .ok (.bipush 114, 2)) (by decide) ?_
              refine re_bipush (pc := 164) (97 : Int32) (by decide +kernel : decode cX13_wordOf 164 = .ok (.bipush 97, 2)) (by decide) ?_
              obtain ⟨x23_, g24_, h⟩ := rv_b_e h
              have m22_ := metX13_spelt n S (115 : Int32) (116 : Int32) (114 : Int32) (97 : Int32) _ g24_
              refine re_cS (pc := 166) [.int (115 : Int32), .int (116 : Int32), .int (114 : Int32), .int (97 : Int32)] m22_ (rv_okl.k ⟨rfl, rfl⟩) (rv_up.rf _ _) (by decide) (Nat.le_of_ble_eq_true rfl) lSX13_149 rfl (by decide +kernel : decode cX13_wordOf 166 = .ok (.invokestatic 149, 3)) ?_
              refine re_bipush (pc := 169) (110 : Int32) (by decide +kernel : decode cX13_wordOf 169 = .ok (.bipush 110, 2)) (by decide) ?_
              refine re_bipush (pc := 171) (103 : Int32) (by decide +kernel : decode cX13_wordOf 171 = .ok (.bipush 103, 2)) (by decide) ?_
              refine re_bipush (pc := 173) (101 : Int32) (by decide +kernel : decode cX13_wordOf 173 = .ok (.bipush 101, 2)) (by decide) ?_
              refine re_bipush (pc := 175) (114 : Int32) (by decide +kernel : decode cX13_wordOf 175 = .ok (.bipush 114, 2)) (by decide) ?_
              obtain ⟨x26_, g27_, h⟩ := rv_b_e h
              have m25_ := metX13_on n S x23_ (110 : Int32) (103 : Int32) (101 : Int32) (114 : Int32) _ g27_
              refine re_cS (pc := 177) [.long x23_, .int (110 : Int32), .int (103 : Int32), .int (101 : Int32), .int (114 : Int32)] m25_ (rv_okl.k ⟨rfl, rfl⟩) (rv_up.rf _ _) (by decide) (Nat.le_of_ble_eq_true rfl) lSX13_153 rfl (by decide +kernel : decode cX13_wordOf 177 = .ok (.invokestatic 153, 3)) ?_
              cases h
              exact re_lret (by decide +kernel : decode cX13_wordOf 180 = .ok (.lreturn, 1))
            · skip
              rcases rv_if_e h with ⟨g28_, h⟩ | ⟨g28_, h⟩
              · refine re_tabInE (pc := 1) (off := 180) 181 (by decide +kernel : decode cX13_wordOf 1 = .ok (.tableswitch 421 0 20 #[99, 110, 121, 133, 145, 157, 180, 191, 203, 224, 244, 264, 274, 285, 296, 308, 328, 340, 360, 381, 401], 99)) g28_ (by decide) (by decide) (by decide) (by decide) ?_
                refine re_bipush (pc := 181) (102 : Int32) (by decide +kernel : decode cX13_wordOf 181 = .ok (.bipush 102, 2)) (by decide) ?_
                refine re_bipush (pc := 183) (101 : Int32) (by decide +kernel : decode cX13_wordOf 183 = .ok (.bipush 101, 2)) (by decide) ?_
                refine re_bipush (pc := 185) (101 : Int32) (by decide +kernel : decode cX13_wordOf 185 = .ok (.bipush 101, 2)) (by decide) ?_
                refine re_iconst (pc := 187) (0 : Int32) (by decide +kernel : decode cX13_wordOf 187 = .ok (.iconst 0, 1)) (by decide) ?_
                obtain ⟨x30_, g31_, h⟩ := rv_b_e h
                have m29_ := metX13_spelt n S (102 : Int32) (101 : Int32) (101 : Int32) (0 : Int32) _ g31_
                refine re_cS (pc := 188) [.int (102 : Int32), .int (101 : Int32), .int (101 : Int32), .int (0 : Int32)] m29_ (rv_okl.k ⟨rfl, rfl⟩) (rv_up.rf _ _) (by decide) (Nat.le_of_ble_eq_true rfl) lSX13_149 rfl (by decide +kernel : decode cX13_wordOf 188 = .ok (.invokestatic 149, 3)) ?_
                cases h
                exact re_lret (by decide +kernel : decode cX13_wordOf 191 = .ok (.lreturn, 1))
              · skip
                rcases rv_if_e h with ⟨g32_, h⟩ | ⟨g32_, h⟩
                · refine re_tabInE (pc := 1) (off := 191) 192 (by decide +kernel : decode cX13_wordOf 1 = .ok (.tableswitch 421 0 20 #[99, 110, 121, 133, 145, 157, 180, 191, 203, 224, 244, 264, 274, 285, 296, 308, 328, 340, 360, 381, 401], 99)) g32_ (by decide) (by decide) (by decide) (by decide) ?_
                  refine re_bipush (pc := 192) (100 : Int32) (by decide +kernel : decode cX13_wordOf 192 = .ok (.bipush 100, 2)) (by decide) ?_
                  refine re_bipush (pc := 194) (101 : Int32) (by decide +kernel : decode cX13_wordOf 194 = .ok (.bipush 101, 2)) (by decide) ?_
                  refine re_bipush (pc := 196) (97 : Int32) (by decide +kernel : decode cX13_wordOf 196 = .ok (.bipush 97, 2)) (by decide) ?_
                  refine re_bipush (pc := 198) (100 : Int32) (by decide +kernel : decode cX13_wordOf 198 = .ok (.bipush 100, 2)) (by decide) ?_
                  obtain ⟨x34_, g35_, h⟩ := rv_b_e h
                  have m33_ := metX13_spelt n S (100 : Int32) (101 : Int32) (97 : Int32) (100 : Int32) _ g35_
                  refine re_cS (pc := 200) [.int (100 : Int32), .int (101 : Int32), .int (97 : Int32), .int (100 : Int32)] m33_ (rv_okl.k ⟨rfl, rfl⟩) (rv_up.rf _ _) (by decide) (Nat.le_of_ble_eq_true rfl) lSX13_149 rfl (by decide +kernel : decode cX13_wordOf 200 = .ok (.invokestatic 149, 3)) ?_
                  cases h
                  exact re_lret (by decide +kernel : decode cX13_wordOf 203 = .ok (.lreturn, 1))
                · skip
                  rcases rv_if_e h with ⟨g36_, h⟩ | ⟨g36_, h⟩
                  · refine re_tabInE (pc := 1) (off := 203) 204 (by decide +kernel : decode cX13_wordOf 1 = .ok (.tableswitch 421 0 20 #[99, 110, 121, 133, 145, 157, 180, 191, 203, 224, 244, 264, 274, 285, 296, 308, 328, 340, 360, 381, 401], 99)) g36_ (by decide) (by decide) (by decide) (by decide) ?_
                    refine re_bipush (pc := 204) (114 : Int32) (by decide +kernel : decode cX13_wordOf 204 = .ok (.bipush 114, 2)) (by decide) ?_
                    refine re_bipush (pc := 206) (117 : Int32) (by decide +kernel : decode cX13_wordOf 206 = .ok (.bipush 117, 2)) (by decide) ?_
                    refine re_bipush (pc := 208) (98 : Int32) (by decide +kernel : decode cX13_wordOf 208 = .ok (.bipush 98, 2)) (by decide) ?_
                    refine re_bipush (pc := 210) (98 : Int32) (by decide +kernel : decode cX13_wordOf 210 = .ok (.bipush 98, 2)) (by decide) ?_
                    obtain ⟨x38_, g39_, h⟩ := rv_b_e h
                    have m37_ := metX13_spelt n S (114 : Int32) (117 : Int32) (98 : Int32) (98 : Int32) _ g39_
                    refine re_cS (pc := 212) [.int (114 : Int32), .int (117 : Int32), .int (98 : Int32), .int (98 : Int32)] m37_ (rv_okl.k ⟨rfl, rfl⟩) (rv_up.rf _ _) (by decide) (Nat.le_of_ble_eq_true rfl) lSX13_149 rfl (by decide +kernel : decode cX13_wordOf 212 = .ok (.invokestatic 149, 3)) ?_
                    refine re_bipush (pc := 215) (101 : Int32) (by decide +kernel : decode cX13_wordOf 215 = .ok (.bipush 101, 2)) (by decide) ?_
                    refine re_bipush (pc := 217) (100 : Int32) (by decide +kernel : decode cX13_wordOf 217 = .ok (.bipush 100, 2)) (by decide) ?_
                    refine re_iconst (pc := 219) (0 : Int32) (by decide +kernel : decode cX13_wordOf 219 = .ok (.iconst 0, 1)) (by decide) ?_
                    refine re_iconst (pc := 220) (0 : Int32) (by decide +kernel : decode cX13_wordOf 220 = .ok (.iconst 0, 1)) (by decide) ?_
                    obtain ⟨x41_, g42_, h⟩ := rv_b_e h
                    have m40_ := metX13_on n S x38_ (101 : Int32) (100 : Int32) (0 : Int32) (0 : Int32) _ g42_
                    refine re_cS (pc := 221) [.long x38_, .int (101 : Int32), .int (100 : Int32), .int (0 : Int32), .int (0 : Int32)] m40_ (rv_okl.k ⟨rfl, rfl⟩) (rv_up.rf _ _) (by decide) (Nat.le_of_ble_eq_true rfl) lSX13_153 rfl (by decide +kernel : decode cX13_wordOf 221 = .ok (.invokestatic 153, 3)) ?_
                    cases h
                    exact re_lret (by decide +kernel : decode cX13_wordOf 224 = .ok (.lreturn, 1))
                  · skip
                    rcases rv_if_e h with ⟨g43_, h⟩ | ⟨g43_, h⟩
                    · refine re_tabInE (pc := 1) (off := 224) 225 (by decide +kernel : decode cX13_wordOf 1 = .ok (.tableswitch 421 0 20 #[99, 110, 121, 133, 145, 157, 180, 191, 203, 224, 244, 264, 274, 285, 296, 308, 328, 340, 360, 381, 401], 99)) g43_ (by decide) (by decide) (by decide) (by decide) ?_
                      refine re_bipush (pc := 225) (115 : Int32) (by decide +kernel : decode cX13_wordOf 225 = .ok (.bipush 115, 2)) (by decide) ?_
                      refine re_bipush (pc := 227) (116 : Int32) (by decide +kernel : decode cX13_wordOf 227 = .ok (.bipush 116, 2)) (by decide) ?_
                      refine re_bipush (pc := 229) (97 : Int32) (by decide +kernel : decode cX13_wordOf 229 = .ok (.bipush 97, 2)) (by decide) ?_
                      refine re_bipush (pc := 231) (121 : Int32) (by decide +kernel : decode cX13_wordOf 231 = .ok (.bipush 121, 2)) (by decide) ?_
                      obtain ⟨x45_, g46_, h⟩ := rv_b_e h
                      have m44_ := metX13_spelt n S (115 : Int32) (116 : Int32) (97 : Int32) (121 : Int32) _ g46_
                      refine re_cS (pc := 233) [.int (115 : Int32), .int (116 : Int32), .int (97 : Int32), .int (121 : Int32)] m44_ (rv_okl.k ⟨rfl, rfl⟩) (rv_up.rf _ _) (by decide) (Nat.le_of_ble_eq_true rfl) lSX13_149 rfl (by decide +kernel : decode cX13_wordOf 233 = .ok (.invokestatic 149, 3)) ?_
                      refine re_bipush (pc := 236) (115 : Int32) (by decide +kernel : decode cX13_wordOf 236 = .ok (.bipush 115, 2)) (by decide) ?_
                      refine re_iconst (pc := 238) (0 : Int32) (by decide +kernel : decode cX13_wordOf 238 = .ok (.iconst 0, 1)) (by decide) ?_
                      refine re_iconst (pc := 239) (0 : Int32) (by decide +kernel : decode cX13_wordOf 239 = .ok (.iconst 0, 1)) (by decide) ?_
                      refine re_iconst (pc := 240) (0 : Int32) (by decide +kernel : decode cX13_wordOf 240 = .ok (.iconst 0, 1)) (by decide) ?_
                      obtain ⟨x48_, g49_, h⟩ := rv_b_e h
                      have m47_ := metX13_on n S x45_ (115 : Int32) (0 : Int32) (0 : Int32) (0 : Int32) _ g49_
                      refine re_cS (pc := 241) [.long x45_, .int (115 : Int32), .int (0 : Int32), .int (0 : Int32), .int (0 : Int32)] m47_ (rv_okl.k ⟨rfl, rfl⟩) (rv_up.rf _ _) (by decide) (Nat.le_of_ble_eq_true rfl) lSX13_153 rfl (by decide +kernel : decode cX13_wordOf 241 = .ok (.invokestatic 153, 3)) ?_
                      cases h
                      exact re_lret (by decide +kernel : decode cX13_wordOf 244 = .ok (.lreturn, 1))
                    · skip
                      rcases rv_if_e h with ⟨g50_, h⟩ | ⟨g50_, h⟩
                      · refine re_tabInE (pc := 1) (off := 244) 245 (by decide +kernel : decode cX13_wordOf 1 = .ok (.tableswitch 421 0 20 #[99, 110, 121, 133, 145, 157, 180, 191, 203, 224, 244, 264, 274, 285, 296, 308, 328, 340, 360, 381, 401], 99)) g50_ (by decide) (by decide) (by decide) (by decide) ?_
                        refine re_bipush (pc := 245) (104 : Int32) (by decide +kernel : decode cX13_wordOf 245 = .ok (.bipush 104, 2)) (by decide) ?_
                        refine re_bipush (pc := 247) (101 : Int32) (by decide +kernel : decode cX13_wordOf 247 = .ok (.bipush 101, 2)) (by decide) ?_
                        refine re_bipush (pc := 249) (105 : Int32) (by decide +kernel : decode cX13_wordOf 249 = .ok (.bipush 105, 2)) (by decide) ?_
                        refine re_bipush (pc := 251) (114 : Int32) (by decide +kernel : decode cX13_wordOf 251 = .ok (.bipush 114, 2)) (by decide) ?_
                        obtain ⟨x52_, g53_, h⟩ := rv_b_e h
                        have m51_ := metX13_spelt n S (104 : Int32) (101 : Int32) (105 : Int32) (114 : Int32) _ g53_
                        refine re_cS (pc := 253) [.int (104 : Int32), .int (101 : Int32), .int (105 : Int32), .int (114 : Int32)] m51_ (rv_okl.k ⟨rfl, rfl⟩) (rv_up.rf _ _) (by decide) (Nat.le_of_ble_eq_true rfl) lSX13_149 rfl (by decide +kernel : decode cX13_wordOf 253 = .ok (.invokestatic 149, 3)) ?_
                        refine re_bipush (pc := 256) (115 : Int32) (by decide +kernel : decode cX13_wordOf 256 = .ok (.bipush 115, 2)) (by decide) ?_
                        refine re_iconst (pc := 258) (0 : Int32) (by decide +kernel : decode cX13_wordOf 258 = .ok (.iconst 0, 1)) (by decide) ?_
                        refine re_iconst (pc := 259) (0 : Int32) (by decide +kernel : decode cX13_wordOf 259 = .ok (.iconst 0, 1)) (by decide) ?_
                        refine re_iconst (pc := 260) (0 : Int32) (by decide +kernel : decode cX13_wordOf 260 = .ok (.iconst 0, 1)) (by decide) ?_
                        obtain ⟨x55_, g56_, h⟩ := rv_b_e h
                        have m54_ := metX13_on n S x52_ (115 : Int32) (0 : Int32) (0 : Int32) (0 : Int32) _ g56_
                        refine re_cS (pc := 261) [.long x52_, .int (115 : Int32), .int (0 : Int32), .int (0 : Int32), .int (0 : Int32)] m54_ (rv_okl.k ⟨rfl, rfl⟩) (rv_up.rf _ _) (by decide) (Nat.le_of_ble_eq_true rfl) lSX13_153 rfl (by decide +kernel : decode cX13_wordOf 261 = .ok (.invokestatic 153, 3)) ?_
                        cases h
                        exact re_lret (by decide +kernel : decode cX13_wordOf 264 = .ok (.lreturn, 1))
                      · skip
                        rcases rv_if_e h with ⟨g57_, h⟩ | ⟨g57_, h⟩
                        · refine re_tabInE (pc := 1) (off := 264) 265 (by decide +kernel : decode cX13_wordOf 1 = .ok (.tableswitch 421 0 20 #[99, 110, 121, 133, 145, 157, 180, 191, 203, 224, 244, 264, 274, 285, 296, 308, 328, 340, 360, 381, 401], 99)) g57_ (by decide) (by decide) (by decide) (by decide) ?_
                          refine re_bipush (pc := 265) (111 : Int32) (by decide +kernel : decode cX13_wordOf 265 = .ok (.bipush 111, 2)) (by decide) ?_
                          refine re_bipush (pc := 267) (114 : Int32) (by decide +kernel : decode cX13_wordOf 267 = .ok (.bipush 114, 2)) (by decide) ?_
                          refine re_iconst (pc := 269) (0 : Int32) (by decide +kernel : decode cX13_wordOf 269 = .ok (.iconst 0, 1)) (by decide) ?_
                          refine re_iconst (pc := 270) (0 : Int32) (by decide +kernel : decode cX13_wordOf 270 = .ok (.iconst 0, 1)) (by decide) ?_
                          obtain ⟨x59_, g60_, h⟩ := rv_b_e h
                          have m58_ := metX13_spelt n S (111 : Int32) (114 : Int32) (0 : Int32) (0 : Int32) _ g60_
                          refine re_cS (pc := 271) [.int (111 : Int32), .int (114 : Int32), .int (0 : Int32), .int (0 : Int32)] m58_ (rv_okl.k ⟨rfl, rfl⟩) (rv_up.rf _ _) (by decide) (Nat.le_of_ble_eq_true rfl) lSX13_149 rfl (by decide +kernel : decode cX13_wordOf 271 = .ok (.invokestatic 149, 3)) ?_
                          cases h
                          exact re_lret (by decide +kernel : decode cX13_wordOf 274 = .ok (.lreturn, 1))
                        · skip
                          rcases rv_if_e h with ⟨g61_, h⟩ | ⟨g61_, h⟩
                          · refine re_tabInE (pc := 1) (off := 274) 275 (by decide +kernel : decode cX13_wordOf 1 = .ok (.tableswitch 421 0 20 #[99, 110, 121, 133, 145, 157, 180, 191, 203, 224, 244, 264, 274, 285, 296, 308, 328, 340, 360, 381, 401], 99)) g61_ (by decide) (by decide) (by decide) (by decide) ?_
                            refine re_bipush (pc := 275) (97 : Int32) (by decide +kernel : decode cX13_wordOf 275 = .ok (.bipush 97, 2)) (by decide) ?_
                            refine re_bipush (pc := 277) (110 : Int32) (by decide +kernel : decode cX13_wordOf 277 = .ok (.bipush 110, 2)) (by decide) ?_
                            refine re_bipush (pc := 279) (100 : Int32) (by decide +kernel : decode cX13_wordOf 279 = .ok (.bipush 100, 2)) (by decide) ?_
                            refine re_iconst (pc := 281) (0 : Int32) (by decide +kernel : decode cX13_wordOf 281 = .ok (.iconst 0, 1)) (by decide) ?_
                            obtain ⟨x63_, g64_, h⟩ := rv_b_e h
                            have m62_ := metX13_spelt n S (97 : Int32) (110 : Int32) (100 : Int32) (0 : Int32) _ g64_
                            refine re_cS (pc := 282) [.int (97 : Int32), .int (110 : Int32), .int (100 : Int32), .int (0 : Int32)] m62_ (rv_okl.k ⟨rfl, rfl⟩) (rv_up.rf _ _) (by decide) (Nat.le_of_ble_eq_true rfl) lSX13_149 rfl (by decide +kernel : decode cX13_wordOf 282 = .ok (.invokestatic 149, 3)) ?_
                            cases h
                            exact re_lret (by decide +kernel : decode cX13_wordOf 285 = .ok (.lreturn, 1))
                          · skip
                            rcases rv_if_e h with ⟨g65_, h⟩ | ⟨g65_, h⟩
                            · refine re_tabInE (pc := 1) (off := 285) 286 (by decide +kernel : decode cX13_wordOf 1 = .ok (.tableswitch 421 0 20 #[99, 110, 121, 133, 145, 157, 180, 191, 203, 224, 244, 264, 274, 285, 296, 308, 328, 340, 360, 381, 401], 99)) g65_ (by decide) (by decide) (by decide) (by decide) ?_
                              refine re_bipush (pc := 286) (110 : Int32) (by decide +kernel : decode cX13_wordOf 286 = .ok (.bipush 110, 2)) (by decide) ?_
                              refine re_bipush (pc := 288) (111 : Int32) (by decide +kernel : decode cX13_wordOf 288 = .ok (.bipush 111, 2)) (by decide) ?_
                              refine re_bipush (pc := 290) (116 : Int32) (by decide +kernel : decode cX13_wordOf 290 = .ok (.bipush 116, 2)) (by decide) ?_
                              refine re_iconst (pc := 292) (0 : Int32) (by decide +kernel : decode cX13_wordOf 292 = .ok (.iconst 0, 1)) (by decide) ?_
                              obtain ⟨x67_, g68_, h⟩ := rv_b_e h
                              have m66_ := metX13_spelt n S (110 : Int32) (111 : Int32) (116 : Int32) (0 : Int32) _ g68_
                              refine re_cS (pc := 293) [.int (110 : Int32), .int (111 : Int32), .int (116 : Int32), .int (0 : Int32)] m66_ (rv_okl.k ⟨rfl, rfl⟩) (rv_up.rf _ _) (by decide) (Nat.le_of_ble_eq_true rfl) lSX13_149 rfl (by decide +kernel : decode cX13_wordOf 293 = .ok (.invokestatic 149, 3)) ?_
                              cases h
                              exact re_lret (by decide +kernel : decode cX13_wordOf 296 = .ok (.lreturn, 1))
                            · skip
                              rcases rv_if_e h with ⟨g69_, h⟩ | ⟨g69_, h⟩
                              · refine re_tabInE (pc := 1) (off := 296) 297 (by decide +kernel : decode cX13_wordOf 1 = .ok (.tableswitch 421 0 20 #[99, 110, 121, 133, 145, 157, 180, 191, 203, 224, 244, 264, 274, 285, 296, 308, 328, 340, 360, 381, 401], 99)) g69_ (by decide) (by decide) (by decide) (by decide) ?_
                                refine re_bipush (pc := 297) (104 : Int32) (by decide +kernel : decode cX13_wordOf 297 = .ok (.bipush 104, 2)) (by decide) ?_
                                refine re_bipush (pc := 299) (101 : Int32) (by decide +kernel : decode cX13_wordOf 299 = .ok (.bipush 101, 2)) (by decide) ?_
                                refine re_bipush (pc := 301) (108 : Int32) (by decide +kernel : decode cX13_wordOf 301 = .ok (.bipush 108, 2)) (by decide) ?_
                                refine re_bipush (pc := 303) (100 : Int32) (by decide +kernel : decode cX13_wordOf 303 = .ok (.bipush 100, 2)) (by decide) ?_
                                obtain ⟨x71_, g72_, h⟩ := rv_b_e h
                                have m70_ := metX13_spelt n S (104 : Int32) (101 : Int32) (108 : Int32) (100 : Int32) _ g72_
                                refine re_cS (pc := 305) [.int (104 : Int32), .int (101 : Int32), .int (108 : Int32), .int (100 : Int32)] m70_ (rv_okl.k ⟨rfl, rfl⟩) (rv_up.rf _ _) (by decide) (Nat.le_of_ble_eq_true rfl) lSX13_149 rfl (by decide +kernel : decode cX13_wordOf 305 = .ok (.invokestatic 149, 3)) ?_
                                cases h
                                exact re_lret (by decide +kernel : decode cX13_wordOf 308 = .ok (.lreturn, 1))
                              · skip
                                rcases rv_if_e h with ⟨g73_, h⟩ | ⟨g73_, h⟩
                                · refine re_tabInE (pc := 1) (off := 308) 309 (by decide +kernel : decode cX13_wordOf 1 = .ok (.tableswitch 421 0 20 #[99, 110, 121, 133, 145, 157, 180, 191, 203, 224, 244, 264, 274, 285, 296, 308, 328, 340, 360, 381, 401], 99)) g73_ (by decide) (by decide) (by decide) (by decide) ?_
                                  refine re_bipush (pc := 309) (98 : Int32) (by decide +kernel : decode cX13_wordOf 309 = .ok (.bipush 98, 2)) (by decide) ?_
                                  refine re_bipush (pc := 311) (101 : Int32) (by decide +kernel : decode cX13_wordOf 311 = .ok (.bipush 101, 2)) (by decide) ?_
                                  refine re_bipush (pc := 313) (97 : Int32) (by decide +kernel : decode cX13_wordOf 313 = .ok (.bipush 97, 2)) (by decide) ?_
                                  refine re_bipush (pc := 315) (114 : Int32) (by decide +kernel : decode cX13_wordOf 315 = .ok (.bipush 114, 2)) (by decide) ?_
                                  obtain ⟨x75_, g76_, h⟩ := rv_b_e h
                                  have m74_ := metX13_spelt n S (98 : Int32) (101 : Int32) (97 : Int32) (114 : Int32) _ g76_
                                  refine re_cS (pc := 317) [.int (98 : Int32), .int (101 : Int32), .int (97 : Int32), .int (114 : Int32)] m74_ (rv_okl.k ⟨rfl, rfl⟩) (rv_up.rf _ _) (by decide) (Nat.le_of_ble_eq_true rfl) lSX13_149 rfl (by decide +kernel : decode cX13_wordOf 317 = .ok (.invokestatic 149, 3)) ?_
                                  refine re_bipush (pc := 320) (115 : Int32) (by decide +kernel : decode cX13_wordOf 320 = .ok (.bipush 115, 2)) (by decide) ?_
                                  refine re_iconst (pc := 322) (0 : Int32) (by decide +kernel : decode cX13_wordOf 322 = .ok (.iconst 0, 1)) (by decide) ?_
                                  refine re_iconst (pc := 323) (0 : Int32) (by decide +kernel : decode cX13_wordOf 323 = .ok (.iconst 0, 1)) (by decide) ?_
                                  refine re_iconst (pc := 324) (0 : Int32) (by decide +kernel : decode cX13_wordOf 324 = .ok (.iconst 0, 1)) (by decide) ?_
                                  obtain ⟨x78_, g79_, h⟩ := rv_b_e h
                                  have m77_ := metX13_on n S x75_ (115 : Int32) (0 : Int32) (0 : Int32) (0 : Int32) _ g79_
                                  refine re_cS (pc := 325) [.long x75_, .int (115 : Int32), .int (0 : Int32), .int (0 : Int32), .int (0 : Int32)] m77_ (rv_okl.k ⟨rfl, rfl⟩) (rv_up.rf _ _) (by decide) (Nat.le_of_ble_eq_true rfl) lSX13_153 rfl (by decide +kernel : decode cX13_wordOf 325 = .ok (.invokestatic 153, 3)) ?_
                                  cases h
                                  exact re_lret (by decide +kernel : decode cX13_wordOf 328 = .ok (.lreturn, 1))
                                · skip
                                  rcases rv_if_e h with ⟨g80_, h⟩ | ⟨g80_, h⟩
                                  · refine re_tabInE (pc := 1) (off := 328) 329 (by decide +kernel : decode cX13_wordOf 1 = .ok (.tableswitch 421 0 20 #[99, 110, 121, 133, 145, 157, 180, 191, 203, 224, 244, 264, 274, 285, 296, 308, 328, 340, 360, 381, 401], 99)) g80_ (by decide) (by decide) (by decide) (by decide) ?_
                                    refine re_bipush (pc := 329) (103 : Int32) (by decide +kernel : decode cX13_wordOf 329 = .ok (.bipush 103, 2)) (by decide) ?_
                                    refine re_bipush (pc := 331) (111 : Int32) (by decide +kernel : decode cX13_wordOf 331 = .ok (.bipush 111, 2)) (by decide) ?_
                                    refine re_bipush (pc := 333) (101 : Int32) (by decide +kernel : decode cX13_wordOf 333 = .ok (.bipush 101, 2)) (by decide) ?_
                                    refine re_bipush (pc := 335) (115 : Int32) (by decide +kernel : decode cX13_wordOf 335 = .ok (.bipush 115, 2)) (by decide) ?_
                                    obtain ⟨x82_, g83_, h⟩ := rv_b_e h
                                    have m81_ := metX13_spelt n S (103 : Int32) (111 : Int32) (101 : Int32) (115 : Int32) _ g83_
                                    refine re_cS (pc := 337) [.int (103 : Int32), .int (111 : Int32), .int (101 : Int32), .int (115 : Int32)] m81_ (rv_okl.k ⟨rfl, rfl⟩) (rv_up.rf _ _) (by decide) (Nat.le_of_ble_eq_true rfl) lSX13_149 rfl (by decide +kernel : decode cX13_wordOf 337 = .ok (.invokestatic 149, 3)) ?_
                                    cases h
                                    exact re_lret (by decide +kernel : decode cX13_wordOf 340 = .ok (.lreturn, 1))
                                  · skip
                                    rcases rv_if_e h with ⟨g84_, h⟩ | ⟨g84_, h⟩
                                    · refine re_tabInE (pc := 1) (off := 340) 341 (by decide +kernel : decode cX13_wordOf 1 = .ok (.tableswitch 421 0 20 #[99, 110, 121, 133, 145, 157, 180, 191, 203, 224, 244, 264, 274, 285, 296, 308, 328, 340, 360, 381, 401], 99)) g84_ (by decide) (by decide) (by decide) (by decide) ?_
                                      refine re_bipush (pc := 341) (115 : Int32) (by decide +kernel : decode cX13_wordOf 341 = .ok (.bipush 115, 2)) (by decide) ?_
                                      refine re_bipush (pc := 343) (116 : Int32) (by decide +kernel : decode cX13_wordOf 343 = .ok (.bipush 116, 2)) (by decide) ?_
                                      refine re_bipush (pc := 345) (117 : Int32) (by decide +kernel : decode cX13_wordOf 345 = .ok (.bipush 117, 2)) (by decide) ?_
                                      refine re_bipush (pc := 347) (99 : Int32) (by decide +kernel : decode cX13_wordOf 347 = .ok (.bipush 99, 2)) (by decide) ?_
                                      obtain ⟨x86_, g87_, h⟩ := rv_b_e h
                                      have m85_ := metX13_spelt n S (115 : Int32) (116 : Int32) (117 : Int32) (99 : Int32) _ g87_
                                      refine re_cS (pc := 349) [.int (115 : Int32), .int (116 : Int32), .int (117 : Int32), .int (99 : Int32)] m85_ (rv_okl.k ⟨rfl, rfl⟩) (rv_up.rf _ _) (by decide) (Nat.le_of_ble_eq_true rfl) lSX13_149 rfl (by decide +kernel : decode cX13_wordOf 349 = .ok (.invokestatic 149, 3)) ?_
                                      refine re_bipush (pc := 352) (107 : Int32) (by decide +kernel : decode cX13_wordOf 352 = .ok (.bipush 107, 2)) (by decide) ?_
                                      refine re_iconst (pc := 354) (0 : Int32) (by decide +kernel : decode cX13_wordOf 354 = .ok (.iconst 0, 1)) (by decide) ?_
                                      refine re_iconst (pc := 355) (0 : Int32) (by decide +kernel : decode cX13_wordOf 355 = .ok (.iconst 0, 1)) (by decide) ?_
                                      refine re_iconst (pc := 356) (0 : Int32) (by decide +kernel : decode cX13_wordOf 356 = .ok (.iconst 0, 1)) (by decide) ?_
                                      obtain ⟨x89_, g90_, h⟩ := rv_b_e h
                                      have m88_ := metX13_on n S x86_ (107 : Int32) (0 : Int32) (0 : Int32) (0 : Int32) _ g90_
                                      refine re_cS (pc := 357) [.long x86_, .int (107 : Int32), .int (0 : Int32), .int (0 : Int32), .int (0 : Int32)] m88_ (rv_okl.k ⟨rfl, rfl⟩) (rv_up.rf _ _) (by decide) (Nat.le_of_ble_eq_true rfl) lSX13_153 rfl (by decide +kernel : decode cX13_wordOf 357 = .ok (.invokestatic 153, 3)) ?_
                                      cases h
                                      exact re_lret (by decide +kernel : decode cX13_wordOf 360 = .ok (.lreturn, 1))
                                    · skip
                                      rcases rv_if_e h with ⟨g91_, h⟩ | ⟨g91_, h⟩
                                      · refine re_tabInE (pc := 1) (off := 360) 361 (by decide +kernel : decode cX13_wordOf 1 = .ok (.tableswitch 421 0 20 #[99, 110, 121, 133, 145, 157, 180, 191, 203, 224, 244, 264, 274, 285, 296, 308, 328, 340, 360, 381, 401], 99)) g91_ (by decide) (by decide) (by decide) (by decide) ?_
                                        refine re_bipush (pc := 361) (102 : Int32) (by decide +kernel : decode cX13_wordOf 361 = .ok (.bipush 102, 2)) (by decide) ?_
                                        refine re_bipush (pc := 363) (111 : Int32) (by decide +kernel : decode cX13_wordOf 363 = .ok (.bipush 111, 2)) (by decide) ?_
                                        refine re_bipush (pc := 365) (114 : Int32) (by decide +kernel : decode cX13_wordOf 365 = .ok (.bipush 114, 2)) (by decide) ?_
                                        refine re_bipush (pc := 367) (103 : Int32) (by decide +kernel : decode cX13_wordOf 367 = .ok (.bipush 103, 2)) (by decide) ?_
                                        obtain ⟨x93_, g94_, h⟩ := rv_b_e h
                                        have m92_ := metX13_spelt n S (102 : Int32) (111 : Int32) (114 : Int32) (103 : Int32) _ g94_
                                        refine re_cS (pc := 369) [.int (102 : Int32), .int (111 : Int32), .int (114 : Int32), .int (103 : Int32)] m92_ (rv_okl.k ⟨rfl, rfl⟩) (rv_up.rf _ _) (by decide) (Nat.le_of_ble_eq_true rfl) lSX13_149 rfl (by decide +kernel : decode cX13_wordOf 369 = .ok (.invokestatic 149, 3)) ?_
                                        refine re_bipush (pc := 372) (101 : Int32) (by decide +kernel : decode cX13_wordOf 372 = .ok (.bipush 101, 2)) (by decide) ?_
                                        refine re_bipush (pc := 374) (100 : Int32) (by decide +kernel : decode cX13_wordOf 374 = .ok (.bipush 100, 2)) (by decide) ?_
                                        refine re_iconst (pc := 376) (0 : Int32) (by decide +kernel : decode cX13_wordOf 376 = .ok (.iconst 0, 1)) (by decide) ?_
                                        refine re_iconst (pc := 377) (0 : Int32) (by decide +kernel : decode cX13_wordOf 377 = .ok (.iconst 0, 1)) (by decide) ?_
                                        obtain ⟨x96_, g97_, h⟩ := rv_b_e h
                                        have m95_ := metX13_on n S x93_ (101 : Int32) (100 : Int32) (0 : Int32) (0 : Int32) _ g97_
                                        refine re_cS (pc := 378) [.long x93_, .int (101 : Int32), .int (100 : Int32), .int (0 : Int32), .int (0 : Int32)] m95_ (rv_okl.k ⟨rfl, rfl⟩) (rv_up.rf _ _) (by decide) (Nat.le_of_ble_eq_true rfl) lSX13_153 rfl (by decide +kernel : decode cX13_wordOf 378 = .ok (.invokestatic 153, 3)) ?_
                                        cases h
                                        exact re_lret (by decide +kernel : decode cX13_wordOf 381 = .ok (.lreturn, 1))
                                      · skip
                                        rcases rv_if_e h with ⟨g98_, h⟩ | ⟨g98_, h⟩
                                        · refine re_tabInE (pc := 1) (off := 381) 382 (by decide +kernel : decode cX13_wordOf 1 = .ok (.tableswitch 421 0 20 #[99, 110, 121, 133, 145, 157, 180, 191, 203, 224, 244, 264, 274, 285, 296, 308, 328, 340, 360, 381, 401], 99)) g98_ (by decide) (by decide) (by decide) (by decide) ?_
                                          refine re_bipush (pc := 382) (118 : Int32) (by decide +kernel : decode cX13_wordOf 382 = .ok (.bipush 118, 2)) (by decide) ?_
                                          refine re_bipush (pc := 384) (97 : Int32) (by decide +kernel : decode cX13_wordOf 384 = .ok (.bipush 97, 2)) (by decide) ?_
                                          refine re_bipush (pc := 386) (108 : Int32) (by decide +kernel : decode cX13_wordOf 386 = .ok (.bipush 108, 2)) (by decide) ?_
                                          refine re_bipush (pc := 388) (117 : Int32) (by decide +kernel : decode cX13_wordOf 388 = .ok (.bipush 117, 2)) (by decide) ?_
                                          obtain ⟨x100_, g101_, h⟩ := rv_b_e h
                                          have m99_ := metX13_spelt n S (118 : Int32) (97 : Int32) (108 : Int32) (117 : Int32) _ g101_
                                          refine re_cS (pc := 390) [.int (118 : Int32), .int (97 : Int32), .int (108 : Int32), .int (117 : Int32)] m99_ (rv_okl.k ⟨rfl, rfl⟩) (rv_up.rf _ _) (by decide) (Nat.le_of_ble_eq_true rfl) lSX13_149 rfl (by decide +kernel : decode cX13_wordOf 390 = .ok (.invokestatic 149, 3)) ?_
                                          refine re_bipush (pc := 393) (101 : Int32) (by decide +kernel : decode cX13_wordOf 393 = .ok (.bipush 101, 2)) (by decide) ?_
                                          refine re_iconst (pc := 395) (0 : Int32) (by decide +kernel : decode cX13_wordOf 395 = .ok (.iconst 0, 1)) (by decide) ?_
                                          refine re_iconst (pc := 396) (0 : Int32) (by decide +kernel : decode cX13_wordOf 396 = .ok (.iconst 0, 1)) (by decide) ?_
                                          refine re_iconst (pc := 397) (0 : Int32) (by decide +kernel : decode cX13_wordOf 397 = .ok (.iconst 0, 1)) (by decide) ?_
                                          obtain ⟨x103_, g104_, h⟩ := rv_b_e h
                                          have m102_ := metX13_on n S x100_ (101 : Int32) (0 : Int32) (0 : Int32) (0 : Int32) _ g104_
                                          refine re_cS (pc := 398) [.long x100_, .int (101 : Int32), .int (0 : Int32), .int (0 : Int32), .int (0 : Int32)] m102_ (rv_okl.k ⟨rfl, rfl⟩) (rv_up.rf _ _) (by decide) (Nat.le_of_ble_eq_true rfl) lSX13_153 rfl (by decide +kernel : decode cX13_wordOf 398 = .ok (.invokestatic 153, 3)) ?_
                                          cases h
                                          exact re_lret (by decide +kernel : decode cX13_wordOf 401 = .ok (.lreturn, 1))
                                        · skip
                                          rcases rv_if_e h with ⟨g105_, h⟩ | ⟨g105_, h⟩
                                          · refine re_tabInE (pc := 1) (off := 401) 402 (by decide +kernel : decode cX13_wordOf 1 = .ok (.tableswitch 421 0 20 #[99, 110, 121, 133, 145, 157, 180, 191, 203, 224, 244, 264, 274, 285, 296, 308, 328, 340, 360, 381, 401], 99)) g105_ (by decide) (by decide) (by decide) (by decide) ?_
                                            refine re_bipush (pc := 402) (110 : Int32) (by decide +kernel : decode cX13_wordOf 402 = .ok (.bipush 110, 2)) (by decide) ?_
                                            refine re_bipush (pc := 404) (97 : Int32) (by decide +kernel : decode cX13_wordOf 404 = .ok (.bipush 97, 2)) (by decide) ?_
                                            refine re_bipush (pc := 406) (109 : Int32) (by decide +kernel : decode cX13_wordOf 406 = .ok (.bipush 109, 2)) (by decide) ?_
                                            refine re_bipush (pc := 408) (101 : Int32) (by decide +kernel : decode cX13_wordOf 408 = .ok (.bipush 101, 2)) (by decide) ?_
                                            obtain ⟨x107_, g108_, h⟩ := rv_b_e h
                                            have m106_ := metX13_spelt n S (110 : Int32) (97 : Int32) (109 : Int32) (101 : Int32) _ g108_
                                            refine re_cS (pc := 410) [.int (110 : Int32), .int (97 : Int32), .int (109 : Int32), .int (101 : Int32)] m106_ (rv_okl.k ⟨rfl, rfl⟩) (rv_up.rf _ _) (by decide) (Nat.le_of_ble_eq_true rfl) lSX13_149 rfl (by decide +kernel : decode cX13_wordOf 410 = .ok (.invokestatic 149, 3)) ?_
                                            refine re_bipush (pc := 413) (115 : Int32) (by decide +kernel : decode cX13_wordOf 413 = .ok (.bipush 115, 2)) (by decide) ?_
                                            refine re_iconst (pc := 415) (0 : Int32) (by decide +kernel : decode cX13_wordOf 415 = .ok (.iconst 0, 1)) (by decide) ?_
                                            refine re_iconst (pc := 416) (0 : Int32) (by decide +kernel : decode cX13_wordOf 416 = .ok (.iconst 0, 1)) (by decide) ?_
                                            refine re_iconst (pc := 417) (0 : Int32) (by decide +kernel : decode cX13_wordOf 417 = .ok (.iconst 0, 1)) (by decide) ?_
                                            obtain ⟨x110_, g111_, h⟩ := rv_b_e h
                                            have m109_ := metX13_on n S x107_ (115 : Int32) (0 : Int32) (0 : Int32) (0 : Int32) _ g111_
                                            refine re_cS (pc := 418) [.long x107_, .int (115 : Int32), .int (0 : Int32), .int (0 : Int32), .int (0 : Int32)] m109_ (rv_okl.k ⟨rfl, rfl⟩) (rv_up.rf _ _) (by decide) (Nat.le_of_ble_eq_true rfl) lSX13_153 rfl (by decide +kernel : decode cX13_wordOf 418 = .ok (.invokestatic 153, 3)) ?_
                                            cases h
                                            exact re_lret (by decide +kernel : decode cX13_wordOf 421 = .ok (.lreturn, 1))
                                          · skip
                                            refine re_tabOut (pc := 1) (dflt := 421) 422 (by decide +kernel : decode cX13_wordOf 1 = .ok (.tableswitch 421 0 20 #[99, 110, 121, 133, 145, 157, 180, 191, 203, 224, 244, 264, 274, 285, 296, 308, 328, 340, 360, 381, 401], 99)) (by have z0_ := lv_neT g1_ (a := 0) (by decide); have z1_ := lv_neT g5_ (a := 1) (by decide); have z2_ := lv_neT g9_ (a := 2) (by decide); have z3_ := lv_neT g13_ (a := 3) (by decide); have z4_ := lv_neT g17_ (a := 4) (by decide); have z5_ := lv_neT g21_ (a := 5) (by decide); have z6_ := lv_neT g28_ (a := 6) (by decide); have z7_ := lv_neT g32_ (a := 7) (by decide); have z8_ := lv_neT g36_ (a := 8) (by decide); have z9_ := lv_neT g43_ (a := 9) (by decide); have z10_ := lv_neT g50_ (a := 10) (by decide); have z11_ := lv_neT g57_ (a := 11) (by decide); have z12_ := lv_neT g61_ (a := 12) (by decide); have z13_ := lv_neT g65_ (a := 13) (by decide); have z14_ := lv_neT g69_ (a := 14) (by decide); have z15_ := lv_neT g73_ (a := 15) (by decide); have z16_ := lv_neT g80_ (a := 16) (by decide); have z17_ := lv_neT g84_ (a := 17) (by decide); have z18_ := lv_neT g91_ (a := 18) (by decide); have z19_ := lv_neT g98_ (a := 19) (by decide); have z20_ := lv_neT g105_ (a := 20) (by decide); omega) (by decide) ?_
                                            refine re_bipush (pc := 422) (112 : Int32) (by decide +kernel : decode cX13_wordOf 422 = .ok (.bipush 112, 2)) (by decide) ?_
                                            refine re_bipush (pc := 424) (108 : Int32) (by decide +kernel : decode cX13_wordOf 424 = .ok (.bipush 108, 2)) (by decide) ?_
                                            refine re_bipush (pc := 426) (97 : Int32) (by decide +kernel : decode cX13_wordOf 426 = .ok (.bipush 97, 2)) (by decide) ?_
                                            refine re_bipush (pc := 428) (99 : Int32) (by decide +kernel : decode cX13_wordOf 428 = .ok (.bipush 99, 2)) (by decide) ?_
                                            obtain ⟨x113_, g114_, h⟩ := rv_b_e h
                                            have m112_ := metX13_spelt n S (112 : Int32) (108 : Int32) (97 : Int32) (99 : Int32) _ g114_
                                            refine re_cS (pc := 430) [.int (112 : Int32), .int (108 : Int32), .int (97 : Int32), .int (99 : Int32)] m112_ (rv_okl.k ⟨rfl, rfl⟩) (rv_up.rf _ _) (by decide) (Nat.le_of_ble_eq_true rfl) lSX13_149 rfl (by decide +kernel : decode cX13_wordOf 430 = .ok (.invokestatic 149, 3)) ?_
                                            refine re_bipush (pc := 433) (101 : Int32) (by decide +kernel : decode cX13_wordOf 433 = .ok (.bipush 101, 2)) (by decide) ?_
                                            refine re_iconst (pc := 435) (0 : Int32) (by decide +kernel : decode cX13_wordOf 435 = .ok (.iconst 0, 1)) (by decide) ?_
                                            refine re_iconst (pc := 436) (0 : Int32) (by decide +kernel : decode cX13_wordOf 436 = .ok (.iconst 0, 1)) (by decide) ?_
                                            refine re_iconst (pc := 437) (0 : Int32) (by decide +kernel : decode cX13_wordOf 437 = .ok (.iconst 0, 1)) (by decide) ?_
                                            obtain ⟨x116_, g117_, h⟩ := rv_b_e h
                                            have m115_ := metX13_on n S x113_ (101 : Int32) (0 : Int32) (0 : Int32) (0 : Int32) _ g117_
                                            refine re_cS (pc := 438) [.long x113_, .int (101 : Int32), .int (0 : Int32), .int (0 : Int32), .int (0 : Int32)] m115_ (rv_okl.k ⟨rfl, rfl⟩) (rv_up.rf _ _) (by decide) (Nat.le_of_ble_eq_true rfl) lSX13_153 rfl (by decide +kernel : decode cX13_wordOf 438 = .ok (.invokestatic 153, 3)) ?_
                                            cases h
                                            exact re_lret (by decide +kernel : decode cX13_wordOf 441 = .ok (.lreturn, 1))
theorem metX13_wordOf (n : Nat) (S : rvS) (x0 : Int32) (r : Int64) (h : fnX13_wordOf n S x0 = some r) : rv_Met yX13_wordOf mX13_wordOf 1 [.int x0] S (some (.long r)) S := rv_Met.of ⟨by decide +kernel, rfl, (fun z => by first | rfl | cases z), rfl⟩ (Nat.le_of_ble_eq_true rfl) rfl (eX13_wordOf_in n S x0 r h)
noncomputable def fnX13_isWord (n : Nat) (S : rvS) (a0 : Nat) (x1 : Int32) : Option Int32 :=
  (rv_gI S 11 a0 7).bind fun x1_ =>
  if x1_ = (2 : Int32) then (
    (rv_gL S 11 a0 12).bind fun x4_ =>
    (fnX13_wordOf n S x1).bind fun x7_ =>
    if (lg_cmp x4_ x7_) = 0 then (
      some (1 : Int32))
    else (
      some (0 : Int32)))
  else (
    some (0 : Int32))
set_option maxRecDepth 20000 in
set_option maxHeartbeats 4000000 in
theorem eX13_isWord_in (n : Nat) (S : rvS) (a0 : Nat) (x1 : Int32) (r : Int32) (h : fnX13_isWord n S a0 x1 = some r) : rv_Ev mX13_isWord 2 0 [(0, .ref a0), (1, .int x1)] [] S (some (.int r)) S := by
  unfold fnX13_isWord at h
  refine re_aloadn (pc := 0) 0 (by decide +kernel : decode cX13_isWord 0 = .ok (.aload_n 0, 1)) rfl ?_
  obtain ⟨x1_, g2_, h⟩ := rv_b_e h
  refine re_gI (pc := 1) g2_ lfX13_121 rfl (by decide +kernel : decode cX13_isWord 1 = .ok (.getfield 121, 3)) ?_
  refine re_iconst (pc := 4) (2 : Int32) (by decide +kernel : decode cX13_isWord 4 = .ok (.iconst 2, 1)) (by decide) ?_
  rcases rv_if_e h with ⟨g3_, h⟩ | ⟨g3_, h⟩
  · refine re_icmp_ne_f (pc := 5) 24 (by decide +kernel : decode cX13_isWord 5 = .ok (.if_icmp .ne 19, 3)) (by decide) g3_ ?_
    refine re_aloadn (pc := 8) 0 (by decide +kernel : decode cX13_isWord 8 = .ok (.aload_n 0, 1)) rfl ?_
    obtain ⟨x4_, g5_, h⟩ := rv_b_e h
    refine re_gL (pc := 9) g5_ lfX13_134 rfl (by decide +kernel : decode cX13_isWord 9 = .ok (.getfield 134, 3)) ?_
    refine re_iloadn (pc := 12) 1 (by decide +kernel : decode cX13_isWord 12 = .ok (.iload_n 1, 1)) rfl ?_
    obtain ⟨x7_, g8_, h⟩ := rv_b_e h
    have m6_ := metX13_wordOf n S x1 _ g8_
    refine re_cS (pc := 13) [.int x1] m6_ (rv_okl.k ⟨rfl, rfl⟩) (rv_up.rf _ _) (by decide) (Nat.le_of_ble_eq_true rfl) lSX13_157 rfl (by decide +kernel : decode cX13_isWord 13 = .ok (.invokestatic 157, 3)) ?_
    refine re_lcmp (pc := 16) (by decide +kernel : decode cX13_isWord 16 = .ok (.lcmp, 1)) ?_
    rcases rv_if_e h with ⟨g9_, h⟩ | ⟨g9_, h⟩
    · refine re_if_ne_f (pc := 17) 24 (by decide +kernel : decode cX13_isWord 17 = .ok (.ifCond .ne 7, 3)) (by decide) g9_ ?_
      refine re_iconst (pc := 20) (1 : Int32) (by decide +kernel : decode cX13_isWord 20 = .ok (.iconst 1, 1)) (by decide) ?_
      refine re_goto (pc := 21) 25 (by decide +kernel : decode cX13_isWord 21 = .ok (.goto 4, 3)) (by decide) ?_
      cases h
      exact re_iret (fun ty hty => by cases hty; rfl) (by decide +kernel : decode cX13_isWord 25 = .ok (.ireturn, 1))
    · refine re_if_ne_t (pc := 17) 24 (by decide +kernel : decode cX13_isWord 17 = .ok (.ifCond .ne 7, 3)) (by decide) g9_ ?_
      refine re_iconst (pc := 24) (0 : Int32) (by decide +kernel : decode cX13_isWord 24 = .ok (.iconst 0, 1)) (by decide) ?_
      cases h
      exact re_iret (fun ty hty => by cases hty; rfl) (by decide +kernel : decode cX13_isWord 25 = .ok (.ireturn, 1))
  · refine re_icmp_ne_t (pc := 5) 24 (by decide +kernel : decode cX13_isWord 5 = .ok (.if_icmp .ne 19, 3)) (by decide) g3_ ?_
    refine re_iconst (pc := 24) (0 : Int32) (by decide +kernel : decode cX13_isWord 24 = .ok (.iconst 0, 1)) (by decide) ?_
    cases h
    exact re_iret (fun ty hty => by cases hty; rfl) (by decide +kernel : decode cX13_isWord 25 = .ok (.ireturn, 1))
theorem metX13_isWord (n : Nat) (S : rvS) (a0 : Nat) (x1 : Int32) (r : Int32) (h : fnX13_isWord n S a0 x1 = some r) : rv_Met yX13_isWord mX13_isWord 2 [.ref a0, .int x1] S (some (.int r)) S := rv_Met.of ⟨by decide +kernel, rfl, (fun z => by first | rfl | cases z), rfl⟩ (Nat.le_of_ble_eq_true rfl) rfl (eX13_isWord_in n S a0 x1 r h)
noncomputable def fnX13_isSign (n : Nat) (S : rvS) (a0 : Nat) (x1 : Int32) : Option Int32 :=
  (rv_gI S 11 a0 7).bind fun x1_ =>
  if x1_ = (4 : Int32) then (
    (rv_gI S 11 a0 9).bind fun x4_ =>
    if x4_ = x1 then (
      some (1 : Int32))
    else (
      some (0 : Int32)))
  else (
    some (0 : Int32))
set_option maxRecDepth 20000 in
set_option maxHeartbeats 4000000 in
theorem eX13_isSign_in (n : Nat) (S : rvS) (a0 : Nat) (x1 : Int32) (r : Int32) (h : fnX13_isSign n S a0 x1 = some r) : rv_Ev mX13_isSign 0 0 [(0, .ref a0), (1, .int x1)] [] S (some (.int r)) S := by
  unfold fnX13_isSign at h
  refine re_aloadn (pc := 0) 0 (by decide +kernel : decode cX13_isSign 0 = .ok (.aload_n 0, 1)) rfl ?_
  obtain ⟨x1_, g2_, h⟩ := rv_b_e h
  refine re_gI (pc := 1) g2_ lfX13_121 rfl (by decide +kernel : decode cX13_isSign 1 = .ok (.getfield 121, 3)) ?_
  refine re_iconst (pc := 4) (4 : Int32) (by decide +kernel : decode cX13_isSign 4 = .ok (.iconst 4, 1)) (by decide) ?_
  rcases rv_if_e h with ⟨g3_, h⟩ | ⟨g3_, h⟩
  · refine re_icmp_ne_f (pc := 5) 20 (by decide +kernel : decode cX13_isSign 5 = .ok (.if_icmp .ne 15, 3)) (by decide) g3_ ?_
    refine re_aloadn (pc := 8) 0 (by decide +kernel : decode cX13_isSign 8 = .ok (.aload_n 0, 1)) rfl ?_
    obtain ⟨x4_, g5_, h⟩ := rv_b_e h
    refine re_gI (pc := 9) g5_ lfX13_131 rfl (by decide +kernel : decode cX13_isSign 9 = .ok (.getfield 131, 3)) ?_
    refine re_iloadn (pc := 12) 1 (by decide +kernel : decode cX13_isSign 12 = .ok (.iload_n 1, 1)) rfl ?_
    rcases rv_if_e h with ⟨g6_, h⟩ | ⟨g6_, h⟩
    · refine re_icmp_ne_f (pc := 13) 20 (by decide +kernel : decode cX13_isSign 13 = .ok (.if_icmp .ne 7, 3)) (by decide) g6_ ?_
      refine re_iconst (pc := 16) (1 : Int32) (by decide +kernel : decode cX13_isSign 16 = .ok (.iconst 1, 1)) (by decide) ?_
      refine re_goto (pc := 17) 21 (by decide +kernel : decode cX13_isSign 17 = .ok (.goto 4, 3)) (by decide) ?_
      cases h
      exact re_iret (fun ty hty => by cases hty; rfl) (by decide +kernel : decode cX13_isSign 21 = .ok (.ireturn, 1))
    · refine re_icmp_ne_t (pc := 13) 20 (by decide +kernel : decode cX13_isSign 13 = .ok (.if_icmp .ne 7, 3)) (by decide) g6_ ?_
      refine re_iconst (pc := 20) (0 : Int32) (by decide +kernel : decode cX13_isSign 20 = .ok (.iconst 0, 1)) (by decide) ?_
      cases h
      exact re_iret (fun ty hty => by cases hty; rfl) (by decide +kernel : decode cX13_isSign 21 = .ok (.ireturn, 1))
  · refine re_icmp_ne_t (pc := 5) 20 (by decide +kernel : decode cX13_isSign 5 = .ok (.if_icmp .ne 15, 3)) (by decide) g3_ ?_
    refine re_iconst (pc := 20) (0 : Int32) (by decide +kernel : decode cX13_isSign 20 = .ok (.iconst 0, 1)) (by decide) ?_
    cases h
    exact re_iret (fun ty hty => by cases hty; rfl) (by decide +kernel : decode cX13_isSign 21 = .ok (.ireturn, 1))
theorem metX13_isSign (n : Nat) (S : rvS) (a0 : Nat) (x1 : Int32) (r : Int32) (h : fnX13_isSign n S a0 x1 = some r) : rv_Met yX13_isSign mX13_isSign 0 [.ref a0, .int x1] S (some (.int r)) S := rv_Met.of ⟨by decide +kernel, rfl, (fun z => by first | rfl | cases z), rfl⟩ (Nat.le_of_ble_eq_true rfl) rfl (eX13_isSign_in n S a0 x1 r h)
noncomputable def cX13_isName_12 (n : Nat) (S : rvS) : Nat → Nat → Int32 → Option Int32
  | 0, _, _ => none
  | k + 1, a0, x1 =>
    if (21 : Int32) < x1 then (
      some (1 : Int32))
    else (
      (rv_gL S 11 a0 12).bind fun x2_ =>
      (fnX13_wordOf n S x1).bind fun x5_ =>
      if (lg_cmp x2_ x5_) = 0 then (
        some (0 : Int32))
      else (
        rv_lt (x1 + (1)) fun x8_ =>
        cX13_isName_12 n S k a0 x8_))
set_option maxRecDepth 20000 in
set_option maxHeartbeats 4000000 in
theorem eX13_isName_12 (n : Nat) (S : rvS) : ∀ (k : Nat) (a0 : Nat) (x1 : Int32) (r : Int32), cX13_isName_12 n S k a0 x1 = some r → rv_Ev mX13_isName 2 12 [(0, .ref a0), (1, .int x1)] [] S (some (.int r)) S := by
  intro k
  induction k with
  | zero => intro a0 x1 r h; exact absurd h (by simp [cX13_isName_12])
  | succ k ih =>
    intro a0 x1 r h
    unfold cX13_isName_12 at h
    refine re_iloadn (pc := 12) 1 (by decide +kernel : decode cX13_isName 12 = .ok (.iload_n 1, 1)) rfl ?_
    refine re_bipush (pc := 13) (21 : Int32) (by decide +kernel : decode cX13_isName 13 = .ok (.bipush 21, 2)) (by decide) ?_
    rcases rv_if_e h with ⟨g1_, h⟩ | ⟨g1_, h⟩
    · refine re_icmp_gt_t (pc := 15) 38 (by decide +kernel : decode cX13_isName 15 = .ok (.if_icmp .gt 23, 3)) (by decide) g1_ ?_
      refine re_iconst (pc := 38) (1 : Int32) (by decide +kernel : decode cX13_isName 38 = .ok (.iconst 1, 1)) (by decide) ?_
      cases h
      exact re_iret (fun ty hty => by cases hty; rfl) (by decide +kernel : decode cX13_isName 39 = .ok (.ireturn, 1))
    · refine re_icmp_gt_f (pc := 15) 38 (by decide +kernel : decode cX13_isName 15 = .ok (.if_icmp .gt 23, 3)) (by decide) g1_ ?_
      refine re_aloadn (pc := 18) 0 (by decide +kernel : decode cX13_isName 18 = .ok (.aload_n 0, 1)) rfl ?_
      obtain ⟨x2_, g3_, h⟩ := rv_b_e h
      refine re_gL (pc := 19) g3_ lfX13_134 rfl (by decide +kernel : decode cX13_isName 19 = .ok (.getfield 134, 3)) ?_
      refine re_iloadn (pc := 22) 1 (by decide +kernel : decode cX13_isName 22 = .ok (.iload_n 1, 1)) rfl ?_
      obtain ⟨x5_, g6_, h⟩ := rv_b_e h
      have m4_ := metX13_wordOf n S x1 _ g6_
      refine re_cS (pc := 23) [.int x1] m4_ (rv_okl.k ⟨rfl, rfl⟩) (rv_up.rf _ _) (by decide) (Nat.le_of_ble_eq_true rfl) lSX13_157 rfl (by decide +kernel : decode cX13_isName 23 = .ok (.invokestatic 157, 3)) ?_
      refine re_lcmp (pc := 26) (by decide +kernel : decode cX13_isName 26 = .ok (.lcmp, 1)) ?_
      rcases rv_if_e h with ⟨g7_, h⟩ | ⟨g7_, h⟩
      · refine re_if_ne_f (pc := 27) 32 (by decide +kernel : decode cX13_isName 27 = .ok (.ifCond .ne 5, 3)) (by decide) g7_ ?_
        refine re_iconst (pc := 30) (0 : Int32) (by decide +kernel : decode cX13_isName 30 = .ok (.iconst 0, 1)) (by decide) ?_
        cases h
        exact re_iret (fun ty hty => by cases hty; rfl) (by decide +kernel : decode cX13_isName 31 = .ok (.ireturn, 1))
      · refine re_if_ne_t (pc := 27) 32 (by decide +kernel : decode cX13_isName 27 = .ok (.ifCond .ne 5, 3)) (by decide) g7_ ?_
        obtain ⟨x8_, g9_, h⟩ := rv_lt_e h
        refine re_iinc (pc := 32) 1 x8_ (lv1 := [(1, .int x8_), (0, .ref a0)]) (by decide +kernel : decode cX13_isName 32 = .ok (.iinc 1 1, 3)) rfl g9_ (by decide) rfl ?_
        refine re_goto (pc := 35) 12 (by decide +kernel : decode cX13_isName 35 = .ok (.goto (-23), 3)) (by decide) ?_
        refine re_sub [1, 0] (lv1 := [(0, .ref a0), (1, .int x8_)]) rfl ?_
        exact ih a0 x8_ _ h
noncomputable def fnX13_isName (n : Nat) (S : rvS) (a0 : Nat) : Option Int32 :=
  (rv_gI S 11 a0 7).bind fun x1_ =>
  if x1_ = (2 : Int32) then (
    cX13_isName_12 n S n a0 (0 : Int32))
  else (
    some (0 : Int32))
set_option maxRecDepth 20000 in
set_option maxHeartbeats 4000000 in
theorem eX13_isName_in (n : Nat) (S : rvS) (a0 : Nat) (r : Int32) (h : fnX13_isName n S a0 = some r) : rv_Ev mX13_isName 2 0 [(0, .ref a0)] [] S (some (.int r)) S := by
  unfold fnX13_isName at h
  refine re_aloadn (pc := 0) 0 (by decide +kernel : decode cX13_isName 0 = .ok (.aload_n 0, 1)) rfl ?_
  obtain ⟨x1_, g2_, h⟩ := rv_b_e h
  refine re_gI (pc := 1) g2_ lfX13_121 rfl (by decide +kernel : decode cX13_isName 1 = .ok (.getfield 121, 3)) ?_
  refine re_iconst (pc := 4) (2 : Int32) (by decide +kernel : decode cX13_isName 4 = .ok (.iconst 2, 1)) (by decide) ?_
  rcases rv_if_e h with ⟨g3_, h⟩ | ⟨g3_, h⟩
  · refine re_icmp_eq_t (pc := 5) 10 (by decide +kernel : decode cX13_isName 5 = .ok (.if_icmp .eq 5, 3)) (by decide) g3_ ?_
    refine re_iconst (pc := 10) (0 : Int32) (by decide +kernel : decode cX13_isName 10 = .ok (.iconst 0, 1)) (by decide) ?_
    refine re_istoren (pc := 11) (lv1 := [(1, .int (0 : Int32)), (0, .ref a0)]) (by decide +kernel : decode cX13_isName 11 = .ok (.istore_n 1, 1)) rfl (by decide) rfl ?_
    refine re_sub [1, 0] (lv1 := [(0, .ref a0), (1, .int (0 : Int32))]) rfl ?_
    exact eX13_isName_12 n S n a0 (0 : Int32) _ h
  · refine re_icmp_eq_f (pc := 5) 10 (by decide +kernel : decode cX13_isName 5 = .ok (.if_icmp .eq 5, 3)) (by decide) g3_ ?_
    refine re_iconst (pc := 8) (0 : Int32) (by decide +kernel : decode cX13_isName 8 = .ok (.iconst 0, 1)) (by decide) ?_
    cases h
    exact re_iret (fun ty hty => by cases hty; rfl) (by decide +kernel : decode cX13_isName 9 = .ok (.ireturn, 1))
theorem metX13_isName (n : Nat) (S : rvS) (a0 : Nat) (r : Int32) (h : fnX13_isName n S a0 = some r) : rv_Met yX13_isName mX13_isName 2 [.ref a0] S (some (.int r)) S := rv_Met.of ⟨by decide +kernel, rfl, (fun z => by first | rfl | cases z), rfl⟩ (Nat.le_of_ble_eq_true rfl) rfl (eX13_isName_in n S a0 r h)
noncomputable def cX13_bad_14 (n : Nat) (S : rvS) (a0 : Nat) (t0 : Nat) (t1 : Int32) : Option (Int32 × rvS) :=
  (rv_pI S 11 t0 10 t1).bind fun S1_ =>
  (rv_gI S1_ 11 a0 6).bind fun x3_ =>
  (rv_pI S1_ 11 a0 11 x3_).bind fun S5_ =>
  some ((0 : Int32), S5_)
set_option maxRecDepth 20000 in
set_option maxHeartbeats 4000000 in
theorem eX13_bad_14 (n : Nat) (S : rvS) (a0 : Nat) (t0 : Nat) (t1 : Int32) (r : Int32) (S' : rvS) (h : cX13_bad_14 n S a0 t0 t1 = some (r, S')) : rv_Ev mX13_bad 0 14 [(0, .ref a0)] [.int t1, .ref t0] S (some (.int r)) S' := by
  unfold cX13_bad_14 at h
  obtain ⟨S1_, g2_, h⟩ := rv_b_e h
  refine re_pI (pc := 14) g2_ lfX13_161 rfl rfl rfl rfl (by decide +kernel : decode cX13_bad 14 = .ok (.putfield 161, 3)) ?_
  refine re_aloadn (pc := 17) 0 (by decide +kernel : decode cX13_bad 17 = .ok (.aload_n 0, 1)) rfl ?_
  refine re_aloadn (pc := 18) 0 (by decide +kernel : decode cX13_bad 18 = .ok (.aload_n 0, 1)) rfl ?_
  obtain ⟨x3_, g4_, h⟩ := rv_b_e h
  refine re_gI (pc := 19) g4_ lfX13_115 rfl (by decide +kernel : decode cX13_bad 19 = .ok (.getfield 115, 3)) ?_
  obtain ⟨S5_, g6_, h⟩ := rv_b_e h
  refine re_pI (pc := 22) g6_ lfX13_164 rfl rfl rfl rfl (by decide +kernel : decode cX13_bad 22 = .ok (.putfield 164, 3)) ?_
  refine re_iconst (pc := 25) (0 : Int32) (by decide +kernel : decode cX13_bad 25 = .ok (.iconst 0, 1)) (by decide) ?_
  cases h
  exact re_iret (fun ty hty => by cases hty; rfl) (by decide +kernel : decode cX13_bad 26 = .ok (.ireturn, 1))
noncomputable def fnX13_bad (n : Nat) (S : rvS) (a0 : Nat) (x1 : Int32) : Option (Int32 × rvS) :=
  (rv_gI S 11 a0 7).bind fun x1_ =>
  if x1_ = (1 : Int32) then (
    cX13_bad_14 n S a0 a0 (1 : Int32))
  else (
    cX13_bad_14 n S a0 a0 x1)
set_option maxRecDepth 20000 in
set_option maxHeartbeats 4000000 in
theorem eX13_bad_in (n : Nat) (S : rvS) (a0 : Nat) (x1 : Int32) (r : Int32) (S' : rvS) (h : fnX13_bad n S a0 x1 = some (r, S')) : rv_Ev mX13_bad 0 0 [(0, .ref a0), (1, .int x1)] [] S (some (.int r)) S' := by
  unfold fnX13_bad at h
  refine re_aloadn (pc := 0) 0 (by decide +kernel : decode cX13_bad 0 = .ok (.aload_n 0, 1)) rfl ?_
  refine re_aloadn (pc := 1) 0 (by decide +kernel : decode cX13_bad 1 = .ok (.aload_n 0, 1)) rfl ?_
  obtain ⟨x1_, g2_, h⟩ := rv_b_e h
  refine re_gI (pc := 2) g2_ lfX13_121 rfl (by decide +kernel : decode cX13_bad 2 = .ok (.getfield 121, 3)) ?_
  refine re_iconst (pc := 5) (1 : Int32) (by decide +kernel : decode cX13_bad 5 = .ok (.iconst 1, 1)) (by decide) ?_
  rcases rv_if_e h with ⟨g3_, h⟩ | ⟨g3_, h⟩
  · refine re_icmp_ne_f (pc := 6) 13 (by decide +kernel : decode cX13_bad 6 = .ok (.if_icmp .ne 7, 3)) (by decide) g3_ ?_
    refine re_iconst (pc := 9) (1 : Int32) (by decide +kernel : decode cX13_bad 9 = .ok (.iconst 1, 1)) (by decide) ?_
    refine re_goto (pc := 10) 14 (by decide +kernel : decode cX13_bad 10 = .ok (.goto 4, 3)) (by decide) ?_
    refine re_sub [0] (lv1 := [(0, .ref a0)]) rfl ?_
    exact eX13_bad_14 n S a0 a0 (1 : Int32) _ _ h
  · refine re_icmp_ne_t (pc := 6) 13 (by decide +kernel : decode cX13_bad 6 = .ok (.if_icmp .ne 7, 3)) (by decide) g3_ ?_
    refine re_iloadn (pc := 13) 1 (by decide +kernel : decode cX13_bad 13 = .ok (.iload_n 1, 1)) rfl ?_
    refine re_sub [0] (lv1 := [(0, .ref a0)]) rfl ?_
    exact eX13_bad_14 n S a0 a0 x1 _ _ h
theorem metX13_bad (n : Nat) (S : rvS) (a0 : Nat) (x1 : Int32) (r : Int32) (S' : rvS) (h : fnX13_bad n S a0 x1 = some (r, S')) : rv_Met yX13_bad mX13_bad 0 [.ref a0, .int x1] S (some (.int r)) S' := rv_Met.of ⟨by decide +kernel, rfl, (fun z => by first | rfl | cases z), rfl⟩ (Nat.le_of_ble_eq_true rfl) rfl (eX13_bad_in n S a0 x1 r S' h)
noncomputable def fnX13_isNumber (n : Nat) (S : rvS) (a0 : Nat) (x1 : Int32) (x2 : Int32) : Option (Int32 × rvS) :=
  (rv_gI S 11 a0 7).bind fun x1_ =>
  if x1_ = (3 : Int32) then (
    (rv_gI S 11 a0 8).bind fun x4_ =>
    (fnX13_isIn n S x4_ x1 x2).bind fun x7_ =>
    if x7_ = 0 then (
      (rv_ck S 11 a0).bind fun u14_ =>
      rv_bp (fnX13_bad n S a0 (2 : Int32)) fun x17_ S18_ =>
      (rv_bo x17_).bind fun b_ =>
      some (b_, S18_))
    else (
      (rv_gI S 11 a0 8).bind fun x10_ =>
      (rv_pI S 11 a0 13 x10_).bind fun S12_ =>
      some ((1 : Int32), S12_)))
  else (
    (rv_ck S 11 a0).bind fun u21_ =>
    rv_bp (fnX13_bad n S a0 (1 : Int32)) fun x24_ S25_ =>
    (rv_bo x24_).bind fun b_ =>
    some (b_, S25_))
set_option maxRecDepth 20000 in
set_option maxHeartbeats 4000000 in
theorem eX13_isNumber_in (n : Nat) (S : rvS) (a0 : Nat) (x1 : Int32) (x2 : Int32) (r : Int32) (S' : rvS) (h : fnX13_isNumber n S a0 x1 x2 = some (r, S')) : rv_Ev mX13_isNumber 1 0 [(0, .ref a0), (1, .int x1), (2, .int x2)] [] S (some (.int r)) S' := by
  unfold fnX13_isNumber at h
  refine re_aloadn (pc := 0) 0 (by decide +kernel : decode cX13_isNumber 0 = .ok (.aload_n 0, 1)) rfl ?_
  obtain ⟨x1_, g2_, h⟩ := rv_b_e h
  refine re_gI (pc := 1) g2_ lfX13_121 rfl (by decide +kernel : decode cX13_isNumber 1 = .ok (.getfield 121, 3)) ?_
  refine re_iconst (pc := 4) (3 : Int32) (by decide +kernel : decode cX13_isNumber 4 = .ok (.iconst 3, 1)) (by decide) ?_
  rcases rv_if_e h with ⟨g3_, h⟩ | ⟨g3_, h⟩
  · refine re_icmp_eq_t (pc := 5) 14 (by decide +kernel : decode cX13_isNumber 5 = .ok (.if_icmp .eq 9, 3)) (by decide) g3_ ?_
    refine re_aloadn (pc := 14) 0 (by decide +kernel : decode cX13_isNumber 14 = .ok (.aload_n 0, 1)) rfl ?_
    obtain ⟨x4_, g5_, h⟩ := rv_b_e h
    refine re_gI (pc := 15) g5_ lfX13_138 rfl (by decide +kernel : decode cX13_isNumber 15 = .ok (.getfield 138, 3)) ?_
    refine re_iloadn (pc := 18) 1 (by decide +kernel : decode cX13_isNumber 18 = .ok (.iload_n 1, 1)) rfl ?_
    refine re_iloadn (pc := 19) 2 (by decide +kernel : decode cX13_isNumber 19 = .ok (.iload_n 2, 1)) rfl ?_
    obtain ⟨x7_, g8_, h⟩ := rv_b_e h
    have m6_ := metX13_isIn n S x4_ x1 x2 _ g8_
    refine re_cS (pc := 20) [.int x4_, .int x1, .int x2] m6_ (rv_okl.k ⟨rfl, rfl⟩) (rv_up.rf _ _) (by decide) (Nat.le_of_ble_eq_true rfl) lSX13_170 rfl (by decide +kernel : decode cX13_isNumber 20 = .ok (.invokestatic 170, 3)) ?_
    rcases rv_if_e h with ⟨g9_, h⟩ | ⟨g9_, h⟩
    · refine re_if_ne_f (pc := 23) 32 (by decide +kernel : decode cX13_isNumber 23 = .ok (.ifCond .ne 9, 3)) (by decide) g9_ ?_
      refine re_aloadn (pc := 26) 0 (by decide +kernel : decode cX13_isNumber 26 = .ok (.aload_n 0, 1)) rfl ?_
      refine re_iconst (pc := 27) (2 : Int32) (by decide +kernel : decode cX13_isNumber 27 = .ok (.iconst 2, 1)) (by decide) ?_
      obtain ⟨u14_, g15_, h⟩ := rv_b_e h
      obtain ⟨x17_, S18_, g19_, h⟩ := rv_bp_e h
      have m16_ := metX13_bad n S a0 (2 : Int32) _ _ g19_
      have z20_ : rv_same S S18_ := m16_.sh rfl
      refine re_cV (pc := 28) [.int (2 : Int32)] m16_ (rv_okl.k z20_) (rv_up.sh z20_) (by decide) (rv_ck_e g15_) ⟨by decide, rfl⟩ (Nat.le_of_ble_eq_true rfl) lVX13_167 rfl (by decide +kernel : decode cX13_isNumber 28 = .ok (.invokevirtual 167, 3)) ?_
      obtain ⟨b_, gb_, h⟩ := rv_b_e h
      obtain ⟨gb1_, gb2_⟩ := rv_bo_e gb_
      refine re_nI (pc := 31) gb1_ ?_
      cases h
      exact re_iret (fun ty hty => by cases hty; exact gb2_) (by decide +kernel : decode cX13_isNumber 31 = .ok (.ireturn, 1))
    · refine re_if_ne_t (pc := 23) 32 (by decide +kernel : decode cX13_isNumber 23 = .ok (.ifCond .ne 9, 3)) (by decide) g9_ ?_
      refine re_aloadn (pc := 32) 0 (by decide +kernel : decode cX13_isNumber 32 = .ok (.aload_n 0, 1)) rfl ?_
      refine re_aloadn (pc := 33) 0 (by decide +kernel : decode cX13_isNumber 33 = .ok (.aload_n 0, 1)) rfl ?_
      obtain ⟨x10_, g11_, h⟩ := rv_b_e h
      refine re_gI (pc := 34) g11_ lfX13_138 rfl (by decide +kernel : decode cX13_isNumber 34 = .ok (.getfield 138, 3)) ?_
      obtain ⟨S12_, g13_, h⟩ := rv_b_e h
      refine re_pI (pc := 37) g13_ lfX13_174 rfl rfl rfl rfl (by decide +kernel : decode cX13_isNumber 37 = .ok (.putfield 174, 3)) ?_
      refine re_iconst (pc := 40) (1 : Int32) (by decide +kernel : decode cX13_isNumber 40 = .ok (.iconst 1, 1)) (by decide) ?_
      cases h
      exact re_iret (fun ty hty => by cases hty; rfl) (by decide +kernel : decode cX13_isNumber 41 = .ok (.ireturn, 1))
  · refine re_icmp_eq_f (pc := 5) 14 (by decide +kernel : decode cX13_isNumber 5 = .ok (.if_icmp .eq 9, 3)) (by decide) g3_ ?_
    refine re_aloadn (pc := 8) 0 (by decide +kernel : decode cX13_isNumber 8 = .ok (.aload_n 0, 1)) rfl ?_
    refine re_iconst (pc := 9) (1 : Int32) (by decide +kernel : decode cX13_isNumber 9 = .ok (.iconst 1, 1)) (by decide) ?_
    obtain ⟨u21_, g22_, h⟩ := rv_b_e h
    obtain ⟨x24_, S25_, g26_, h⟩ := rv_bp_e h
    have m23_ := metX13_bad n S a0 (1 : Int32) _ _ g26_
    have z27_ : rv_same S S25_ := m23_.sh rfl
    refine re_cV (pc := 10) [.int (1 : Int32)] m23_ (rv_okl.k z27_) (rv_up.sh z27_) (by decide) (rv_ck_e g22_) ⟨by decide, rfl⟩ (Nat.le_of_ble_eq_true rfl) lVX13_167 rfl (by decide +kernel : decode cX13_isNumber 10 = .ok (.invokevirtual 167, 3)) ?_
    obtain ⟨b_, gb_, h⟩ := rv_b_e h
    obtain ⟨gb1_, gb2_⟩ := rv_bo_e gb_
    refine re_nI (pc := 13) gb1_ ?_
    cases h
    exact re_iret (fun ty hty => by cases hty; exact gb2_) (by decide +kernel : decode cX13_isNumber 13 = .ok (.ireturn, 1))
theorem metX13_isNumber (n : Nat) (S : rvS) (a0 : Nat) (x1 : Int32) (x2 : Int32) (r : Int32) (S' : rvS) (h : fnX13_isNumber n S a0 x1 x2 = some (r, S')) : rv_Met yX13_isNumber mX13_isNumber 1 [.ref a0, .int x1, .int x2] S (some (.int r)) S' := rv_Met.of ⟨by decide +kernel, rfl, (fun z => by first | rfl | cases z), rfl⟩ (Nat.le_of_ble_eq_true rfl) rfl (eX13_isNumber_in n S a0 x1 x2 r S' h)
noncomputable def fnX13_readNumber (n : Nat) (S : rvS) (a0 : Nat) (x1 : Int32) (x2 : Int32) : Option (Int32 × rvS) :=
  (rv_ck S 11 a0).bind fun u1_ =>
  rv_bp (fnX13_isNumber n S a0 x1 x2) fun x4_ S5_ =>
  if x4_ = 0 then (
    some ((0 : Int32), S5_))
  else (
    (rv_ck S5_ 11 a0).bind fun u9_ =>
    (fnX13_go n S5_ a0).bind fun S12_ =>
    some ((1 : Int32), S12_))
set_option maxRecDepth 20000 in
set_option maxHeartbeats 4000000 in
theorem eX13_readNumber_in (n : Nat) (S : rvS) (a0 : Nat) (x1 : Int32) (x2 : Int32) (r : Int32) (S' : rvS) (h : fnX13_readNumber n S a0 x1 x2 = some (r, S')) : rv_Ev mX13_readNumber 2 0 [(0, .ref a0), (1, .int x1), (2, .int x2)] [] S (some (.int r)) S' := by
  unfold fnX13_readNumber at h
  refine re_aloadn (pc := 0) 0 (by decide +kernel : decode cX13_readNumber 0 = .ok (.aload_n 0, 1)) rfl ?_
  refine re_iloadn (pc := 1) 1 (by decide +kernel : decode cX13_readNumber 1 = .ok (.iload_n 1, 1)) rfl ?_
  refine re_iloadn (pc := 2) 2 (by decide +kernel : decode cX13_readNumber 2 = .ok (.iload_n 2, 1)) rfl ?_
  obtain ⟨u1_, g2_, h⟩ := rv_b_e h
  obtain ⟨x4_, S5_, g6_, h⟩ := rv_bp_e h
  have m3_ := metX13_isNumber n S a0 x1 x2 _ _ g6_
  have z7_ : rv_same S S5_ := m3_.sh rfl
  refine re_cV (pc := 3) [.int x1, .int x2] m3_ (rv_okl.k z7_) (rv_up.sh z7_) (by decide) (rv_ck_e g2_) ⟨by decide, rfl⟩ (Nat.le_of_ble_eq_true rfl) lVX13_177 rfl (by decide +kernel : decode cX13_readNumber 3 = .ok (.invokevirtual 177, 3)) ?_
  rcases rv_if_e h with ⟨g8_, h⟩ | ⟨g8_, h⟩
  · refine re_if_ne_f (pc := 6) 11 (by decide +kernel : decode cX13_readNumber 6 = .ok (.ifCond .ne 5, 3)) (by decide) g8_ ?_
    refine re_iconst (pc := 9) (0 : Int32) (by decide +kernel : decode cX13_readNumber 9 = .ok (.iconst 0, 1)) (by decide) ?_
    cases h
    exact re_iret (fun ty hty => by cases hty; rfl) (by decide +kernel : decode cX13_readNumber 10 = .ok (.ireturn, 1))
  · refine re_if_ne_t (pc := 6) 11 (by decide +kernel : decode cX13_readNumber 6 = .ok (.ifCond .ne 5, 3)) (by decide) g8_ ?_
    refine re_aloadn (pc := 11) 0 (by decide +kernel : decode cX13_readNumber 11 = .ok (.aload_n 0, 1)) rfl ?_
    obtain ⟨u9_, g10_, h⟩ := rv_b_e h
    obtain ⟨S12_, g13_, h⟩ := rv_b_e h
    have m11_ := metX13_go n S5_ a0 _ g13_
    have z14_ : rv_same S5_ S12_ := m11_.sh rfl
    refine re_cV (pc := 12) [] m11_ (rv_okl.k z14_) (rv_up.sh z14_) (by decide) (rv_ck_e g10_) ⟨by decide, rfl⟩ (Nat.le_of_ble_eq_true rfl) lVX13_181 rfl (by decide +kernel : decode cX13_readNumber 12 = .ok (.invokevirtual 181, 3)) ?_
    refine re_iconst (pc := 15) (1 : Int32) (by decide +kernel : decode cX13_readNumber 15 = .ok (.iconst 1, 1)) (by decide) ?_
    cases h
    exact re_iret (fun ty hty => by cases hty; rfl) (by decide +kernel : decode cX13_readNumber 16 = .ok (.ireturn, 1))
theorem metX13_readNumber (n : Nat) (S : rvS) (a0 : Nat) (x1 : Int32) (x2 : Int32) (r : Int32) (S' : rvS) (h : fnX13_readNumber n S a0 x1 x2 = some (r, S')) : rv_Met yX13_readNumber mX13_readNumber 2 [.ref a0, .int x1, .int x2] S (some (.int r)) S' := rv_Met.of ⟨by decide +kernel, rfl, (fun z => by first | rfl | cases z), rfl⟩ (Nat.le_of_ble_eq_true rfl) rfl (eX13_readNumber_in n S a0 x1 x2 r S' h)
noncomputable def fnX13_readEnd (n : Nat) (S : rvS) (a0 : Nat) : Option (Int32 × rvS) :=
  (rv_ck S 11 a0).bind fun u1_ =>
  (fnX13_isSign n S a0 (59 : Int32)).bind fun x4_ =>
  if x4_ = 0 then (
    (rv_ck S 11 a0).bind fun u13_ =>
    rv_bp (fnX13_bad n S a0 (1 : Int32)) fun x16_ S17_ =>
    (rv_bo x16_).bind fun b_ =>
    some (b_, S17_))
  else (
    (rv_ck S 11 a0).bind fun u7_ =>
    (fnX13_go n S a0).bind fun S10_ =>
    some ((1 : Int32), S10_))
set_option maxRecDepth 20000 in
set_option maxHeartbeats 4000000 in
theorem eX13_readEnd_in (n : Nat) (S : rvS) (a0 : Nat) (r : Int32) (S' : rvS) (h : fnX13_readEnd n S a0 = some (r, S')) : rv_Ev mX13_readEnd 2 0 [(0, .ref a0)] [] S (some (.int r)) S' := by
  unfold fnX13_readEnd at h
  refine re_aloadn (pc := 0) 0 (by decide +kernel : decode cX13_readEnd 0 = .ok (.aload_n 0, 1)) rfl ?_
  refine re_bipush (pc := 1) (59 : Int32) (by decide +kernel : decode cX13_readEnd 1 = .ok (.bipush 59, 2)) (by decide) ?_
  obtain ⟨u1_, g2_, h⟩ := rv_b_e h
  obtain ⟨x4_, g5_, h⟩ := rv_b_e h
  have m3_ := metX13_isSign n S a0 (59 : Int32) _ g5_
  refine re_cV (pc := 3) [.int (59 : Int32)] m3_ (rv_okl.k ⟨rfl, rfl⟩) (rv_up.rf _ _) (by decide) (rv_ck_e g2_) ⟨by decide, rfl⟩ (Nat.le_of_ble_eq_true rfl) lVX13_184 rfl (by decide +kernel : decode cX13_readEnd 3 = .ok (.invokevirtual 184, 3)) ?_
  rcases rv_if_e h with ⟨g6_, h⟩ | ⟨g6_, h⟩
  · refine re_if_ne_f (pc := 6) 15 (by decide +kernel : decode cX13_readEnd 6 = .ok (.ifCond .ne 9, 3)) (by decide) g6_ ?_
    refine re_aloadn (pc := 9) 0 (by decide +kernel : decode cX13_readEnd 9 = .ok (.aload_n 0, 1)) rfl ?_
    refine re_iconst (pc := 10) (1 : Int32) (by decide +kernel : decode cX13_readEnd 10 = .ok (.iconst 1, 1)) (by decide) ?_
    obtain ⟨u13_, g14_, h⟩ := rv_b_e h
    obtain ⟨x16_, S17_, g18_, h⟩ := rv_bp_e h
    have m15_ := metX13_bad n S a0 (1 : Int32) _ _ g18_
    have z19_ : rv_same S S17_ := m15_.sh rfl
    refine re_cV (pc := 11) [.int (1 : Int32)] m15_ (rv_okl.k z19_) (rv_up.sh z19_) (by decide) (rv_ck_e g14_) ⟨by decide, rfl⟩ (Nat.le_of_ble_eq_true rfl) lVX13_167 rfl (by decide +kernel : decode cX13_readEnd 11 = .ok (.invokevirtual 167, 3)) ?_
    obtain ⟨b_, gb_, h⟩ := rv_b_e h
    obtain ⟨gb1_, gb2_⟩ := rv_bo_e gb_
    refine re_nI (pc := 14) gb1_ ?_
    cases h
    exact re_iret (fun ty hty => by cases hty; exact gb2_) (by decide +kernel : decode cX13_readEnd 14 = .ok (.ireturn, 1))
  · refine re_if_ne_t (pc := 6) 15 (by decide +kernel : decode cX13_readEnd 6 = .ok (.ifCond .ne 9, 3)) (by decide) g6_ ?_
    refine re_aloadn (pc := 15) 0 (by decide +kernel : decode cX13_readEnd 15 = .ok (.aload_n 0, 1)) rfl ?_
    obtain ⟨u7_, g8_, h⟩ := rv_b_e h
    obtain ⟨S10_, g11_, h⟩ := rv_b_e h
    have m9_ := metX13_go n S a0 _ g11_
    have z12_ : rv_same S S10_ := m9_.sh rfl
    refine re_cV (pc := 16) [] m9_ (rv_okl.k z12_) (rv_up.sh z12_) (by decide) (rv_ck_e g8_) ⟨by decide, rfl⟩ (Nat.le_of_ble_eq_true rfl) lVX13_181 rfl (by decide +kernel : decode cX13_readEnd 16 = .ok (.invokevirtual 181, 3)) ?_
    refine re_iconst (pc := 19) (1 : Int32) (by decide +kernel : decode cX13_readEnd 19 = .ok (.iconst 1, 1)) (by decide) ?_
    cases h
    exact re_iret (fun ty hty => by cases hty; rfl) (by decide +kernel : decode cX13_readEnd 20 = .ok (.ireturn, 1))
theorem metX13_readEnd (n : Nat) (S : rvS) (a0 : Nat) (r : Int32) (S' : rvS) (h : fnX13_readEnd n S a0 = some (r, S')) : rv_Met yX13_readEnd mX13_readEnd 2 [.ref a0] S (some (.int r)) S' := rv_Met.of ⟨by decide +kernel, rfl, (fun z => by first | rfl | cases z), rfl⟩ (Nat.le_of_ble_eq_true rfl) rfl (eX13_readEnd_in n S a0 r S' h)
noncomputable def cX13_plain_34 (n : Nat) : Nat → rvS → Nat → Int32 → Option rvS
  | 0, _, _, _ => none
  | k + 1, S, a0, x1 =>
    if (4 : Int32) ≤ x1 then (
      some S)
    else (
      (rv_uI S a0 ((128 : Int32) + x1) ((1 : Int32) <<< (x1 &&& 31))).bind fun S2_ =>
      rv_lt (x1 + (1)) fun x4_ =>
      cX13_plain_34 n k S2_ a0 x4_)
set_option maxRecDepth 20000 in
set_option maxHeartbeats 4000000 in
theorem eX13_plain_34 (n : Nat) : ∀ (k : Nat) (S : rvS) (a0 : Nat) (x1 : Int32) (S' : rvS), cX13_plain_34 n k S a0 x1 = some S' → rv_Ev mX13_plain 0 34 [(0, .ref a0), (1, .int x1)] [] S none S' := by
  intro k
  induction k with
  | zero => intro S a0 x1 S' h; exact absurd h (by simp [cX13_plain_34])
  | succ k ih =>
    intro S a0 x1 S' h
    unfold cX13_plain_34 at h
    refine re_iloadn (pc := 34) 1 (by decide +kernel : decode cX13_plain 34 = .ok (.iload_n 1, 1)) rfl ?_
    refine re_iconst (pc := 35) (4 : Int32) (by decide +kernel : decode cX13_plain 35 = .ok (.iconst 4, 1)) (by decide) ?_
    rcases rv_if_e h with ⟨g1_, h⟩ | ⟨g1_, h⟩
    · refine re_icmp_ge_t (pc := 36) 55 (by decide +kernel : decode cX13_plain 36 = .ok (.if_icmp .ge 19, 3)) (by decide) g1_ ?_
      cases h
      exact re_vret (by decide +kernel : decode cX13_plain 55 = .ok (.return_, 1))
    · refine re_icmp_ge_f (pc := 36) 55 (by decide +kernel : decode cX13_plain 36 = .ok (.if_icmp .ge 19, 3)) (by decide) g1_ ?_
      refine re_aloadn (pc := 39) 0 (by decide +kernel : decode cX13_plain 39 = .ok (.aload_n 0, 1)) rfl ?_
      refine re_sipush (pc := 40) (128 : Int32) (by decide +kernel : decode cX13_plain 40 = .ok (.sipush 128, 3)) (by decide) ?_
      refine re_iloadn (pc := 43) 1 (by decide +kernel : decode cX13_plain 43 = .ok (.iload_n 1, 1)) rfl ?_
      refine re_iadd (pc := 44) (by decide +kernel : decode cX13_plain 44 = .ok (.iadd, 1)) ?_
      refine re_iconst (pc := 45) (1 : Int32) (by decide +kernel : decode cX13_plain 45 = .ok (.iconst 1, 1)) (by decide) ?_
      refine re_iloadn (pc := 46) 1 (by decide +kernel : decode cX13_plain 46 = .ok (.iload_n 1, 1)) rfl ?_
      refine re_ishl (pc := 47) (by decide +kernel : decode cX13_plain 47 = .ok (.ishl, 1)) ?_
      obtain ⟨S2_, g3_, h⟩ := rv_b_e h
      refine re_uI (pc := 48) g3_ (by decide +kernel : decode cX13_plain 48 = .ok (.iastore, 1)) ?_
      obtain ⟨x4_, g5_, h⟩ := rv_lt_e h
      refine re_iinc (pc := 49) 1 x4_ (lv1 := [(1, .int x4_), (0, .ref a0)]) (by decide +kernel : decode cX13_plain 49 = .ok (.iinc 1 1, 3)) rfl g5_ (by decide) rfl ?_
      refine re_goto (pc := 52) 34 (by decide +kernel : decode cX13_plain 52 = .ok (.goto (-18), 3)) (by decide) ?_
      refine re_sub [1, 0] (lv1 := [(0, .ref a0), (1, .int x4_)]) rfl ?_
      exact ih S2_ a0 x4_ _ h
noncomputable def cX13_plain_19 (n : Nat) (S : rvS) (a0 : Nat) : Option rvS :=
  (rv_uI S a0 (3 : Int32) (3 : Int32)).bind fun S1_ =>
  (rv_uI S1_ a0 (4 : Int32) (8 : Int32)).bind fun S3_ =>
  (rv_uI S3_ a0 (5 : Int32) (1 : Int32)).bind fun S5_ =>
  cX13_plain_34 n n S5_ a0 (0 : Int32)
set_option maxRecDepth 20000 in
set_option maxHeartbeats 4000000 in
theorem eX13_plain_19 (n : Nat) (S : rvS) (a0 : Nat) (S' : rvS) (h : cX13_plain_19 n S a0 = some S') : rv_Ev mX13_plain 0 19 [(0, .ref a0)] [] S none S' := by
  unfold cX13_plain_19 at h
  refine re_aloadn (pc := 19) 0 (by decide +kernel : decode cX13_plain 19 = .ok (.aload_n 0, 1)) rfl ?_
  refine re_iconst (pc := 20) (3 : Int32) (by decide +kernel : decode cX13_plain 20 = .ok (.iconst 3, 1)) (by decide) ?_
  refine re_iconst (pc := 21) (3 : Int32) (by decide +kernel : decode cX13_plain 21 = .ok (.iconst 3, 1)) (by decide) ?_
  obtain ⟨S1_, g2_, h⟩ := rv_b_e h
  refine re_uI (pc := 22) g2_ (by decide +kernel : decode cX13_plain 22 = .ok (.iastore, 1)) ?_
  refine re_aloadn (pc := 23) 0 (by decide +kernel : decode cX13_plain 23 = .ok (.aload_n 0, 1)) rfl ?_
  refine re_iconst (pc := 24) (4 : Int32) (by decide +kernel : decode cX13_plain 24 = .ok (.iconst 4, 1)) (by decide) ?_
  refine re_bipush (pc := 25) (8 : Int32) (by decide +kernel : decode cX13_plain 25 = .ok (.bipush 8, 2)) (by decide) ?_
  obtain ⟨S3_, g4_, h⟩ := rv_b_e h
  refine re_uI (pc := 27) g4_ (by decide +kernel : decode cX13_plain 27 = .ok (.iastore, 1)) ?_
  refine re_aloadn (pc := 28) 0 (by decide +kernel : decode cX13_plain 28 = .ok (.aload_n 0, 1)) rfl ?_
  refine re_iconst (pc := 29) (5 : Int32) (by decide +kernel : decode cX13_plain 29 = .ok (.iconst 5, 1)) (by decide) ?_
  refine re_iconst (pc := 30) (1 : Int32) (by decide +kernel : decode cX13_plain 30 = .ok (.iconst 1, 1)) (by decide) ?_
  obtain ⟨S5_, g6_, h⟩ := rv_b_e h
  refine re_uI (pc := 31) g6_ (by decide +kernel : decode cX13_plain 31 = .ok (.iastore, 1)) ?_
  refine re_iconst (pc := 32) (0 : Int32) (by decide +kernel : decode cX13_plain 32 = .ok (.iconst 0, 1)) (by decide) ?_
  refine re_istoren (pc := 33) (lv1 := [(1, .int (0 : Int32)), (0, .ref a0)]) (by decide +kernel : decode cX13_plain 33 = .ok (.istore_n 1, 1)) rfl (by decide) rfl ?_
  refine re_sub [1, 0] (lv1 := [(0, .ref a0), (1, .int (0 : Int32))]) rfl ?_
  exact eX13_plain_34 n n S5_ a0 (0 : Int32) _ h
noncomputable def cX13_plain_2 (n : Nat) : Nat → rvS → Nat → Int32 → Option rvS
  | 0, _, _, _ => none
  | k + 1, S, a0, x1 =>
    if (420 : Int32) ≤ x1 then (
      cX13_plain_19 n S a0)
    else (
      (rv_uI S a0 x1 (0 : Int32)).bind fun S2_ =>
      rv_lt (x1 + (1)) fun x4_ =>
      cX13_plain_2 n k S2_ a0 x4_)
set_option maxRecDepth 20000 in
set_option maxHeartbeats 4000000 in
theorem eX13_plain_2 (n : Nat) : ∀ (k : Nat) (S : rvS) (a0 : Nat) (x1 : Int32) (S' : rvS), cX13_plain_2 n k S a0 x1 = some S' → rv_Ev mX13_plain 0 2 [(0, .ref a0), (1, .int x1)] [] S none S' := by
  intro k
  induction k with
  | zero => intro S a0 x1 S' h; exact absurd h (by simp [cX13_plain_2])
  | succ k ih =>
    intro S a0 x1 S' h
    unfold cX13_plain_2 at h
    refine re_iloadn (pc := 2) 1 (by decide +kernel : decode cX13_plain 2 = .ok (.iload_n 1, 1)) rfl ?_
    refine re_sipush (pc := 3) (420 : Int32) (by decide +kernel : decode cX13_plain 3 = .ok (.sipush 420, 3)) (by decide) ?_
    rcases rv_if_e h with ⟨g1_, h⟩ | ⟨g1_, h⟩
    · refine re_icmp_ge_t (pc := 6) 19 (by decide +kernel : decode cX13_plain 6 = .ok (.if_icmp .ge 13, 3)) (by decide) g1_ ?_
      refine re_sub [0] (lv1 := [(0, .ref a0)]) rfl ?_
      exact eX13_plain_19 n S a0 _ h
    · refine re_icmp_ge_f (pc := 6) 19 (by decide +kernel : decode cX13_plain 6 = .ok (.if_icmp .ge 13, 3)) (by decide) g1_ ?_
      refine re_aloadn (pc := 9) 0 (by decide +kernel : decode cX13_plain 9 = .ok (.aload_n 0, 1)) rfl ?_
      refine re_iloadn (pc := 10) 1 (by decide +kernel : decode cX13_plain 10 = .ok (.iload_n 1, 1)) rfl ?_
      refine re_iconst (pc := 11) (0 : Int32) (by decide +kernel : decode cX13_plain 11 = .ok (.iconst 0, 1)) (by decide) ?_
      obtain ⟨S2_, g3_, h⟩ := rv_b_e h
      refine re_uI (pc := 12) g3_ (by decide +kernel : decode cX13_plain 12 = .ok (.iastore, 1)) ?_
      obtain ⟨x4_, g5_, h⟩ := rv_lt_e h
      refine re_iinc (pc := 13) 1 x4_ (lv1 := [(1, .int x4_), (0, .ref a0)]) (by decide +kernel : decode cX13_plain 13 = .ok (.iinc 1 1, 3)) rfl g5_ (by decide) rfl ?_
      refine re_goto (pc := 16) 2 (by decide +kernel : decode cX13_plain 16 = .ok (.goto (-14), 3)) (by decide) ?_
      refine re_sub [1, 0] (lv1 := [(0, .ref a0), (1, .int x4_)]) rfl ?_
      exact ih S2_ a0 x4_ _ h
noncomputable def fnX13_plain (n : Nat) (S : rvS) (a0 : Nat) : Option rvS :=
  cX13_plain_2 n n S a0 (0 : Int32)
set_option maxRecDepth 20000 in
set_option maxHeartbeats 4000000 in
theorem eX13_plain_in (n : Nat) (S : rvS) (a0 : Nat) (S' : rvS) (h : fnX13_plain n S a0 = some S') : rv_Ev mX13_plain 0 0 [(0, .ref a0)] [] S none S' := by
  unfold fnX13_plain at h
  refine re_iconst (pc := 0) (0 : Int32) (by decide +kernel : decode cX13_plain 0 = .ok (.iconst 0, 1)) (by decide) ?_
  refine re_istoren (pc := 1) (lv1 := [(1, .int (0 : Int32)), (0, .ref a0)]) (by decide +kernel : decode cX13_plain 1 = .ok (.istore_n 1, 1)) rfl (by decide) rfl ?_
  refine re_sub [1, 0] (lv1 := [(0, .ref a0), (1, .int (0 : Int32))]) rfl ?_
  exact eX13_plain_2 n n S a0 (0 : Int32) _ h
theorem metX13_plain (n : Nat) (S : rvS) (a0 : Nat) (S' : rvS) (h : fnX13_plain n S a0 = some S') : rv_Met yX13_plain mX13_plain 0 [.ref a0] S none S' := rv_Met.of ⟨by decide +kernel, rfl, (fun z => by first | rfl | cases z), rfl⟩ (Nat.le_of_ble_eq_true rfl) rfl (eX13_plain_in n S a0 S' h)
noncomputable def fnX13_lay (n : Nat) (S : rvS) (a0 : Nat) : Option rvS :=
  (rv_gI S 11 a0 22).bind fun x1_ =>
  if x1_ = 0 then (
    (rv_pI S 11 a0 22 (1 : Int32)).bind fun S4_ =>
    (rv_gR S4_ 11 a0 14).bind fun a6_ =>
    (fnX13_plain n S4_ a6_).bind fun S9_ =>
    some S9_)
  else (
    some S)
set_option maxRecDepth 20000 in
set_option maxHeartbeats 4000000 in
theorem eX13_lay_in (n : Nat) (S : rvS) (a0 : Nat) (S' : rvS) (h : fnX13_lay n S a0 = some S') : rv_Ev mX13_lay 1 0 [(0, .ref a0)] [] S none S' := by
  unfold fnX13_lay at h
  refine re_aloadn (pc := 0) 0 (by decide +kernel : decode cX13_lay 0 = .ok (.aload_n 0, 1)) rfl ?_
  obtain ⟨x1_, g2_, h⟩ := rv_b_e h
  refine re_gI (pc := 1) g2_ lfX13_194 rfl (by decide +kernel : decode cX13_lay 1 = .ok (.getfield 194, 3)) ?_
  rcases rv_if_e h with ⟨g3_, h⟩ | ⟨g3_, h⟩
  · refine re_if_eq_t (pc := 4) 8 (by decide +kernel : decode cX13_lay 4 = .ok (.ifCond .eq 4, 3)) (by decide) g3_ ?_
    refine re_aloadn (pc := 8) 0 (by decide +kernel : decode cX13_lay 8 = .ok (.aload_n 0, 1)) rfl ?_
    refine re_iconst (pc := 9) (1 : Int32) (by decide +kernel : decode cX13_lay 9 = .ok (.iconst 1, 1)) (by decide) ?_
    obtain ⟨S4_, g5_, h⟩ := rv_b_e h
    refine re_pI (pc := 10) g5_ lfX13_194 rfl rfl rfl rfl (by decide +kernel : decode cX13_lay 10 = .ok (.putfield 194, 3)) ?_
    refine re_aloadn (pc := 13) 0 (by decide +kernel : decode cX13_lay 13 = .ok (.aload_n 0, 1)) rfl ?_
    obtain ⟨a6_, g7_, h⟩ := rv_b_e h
    refine re_gR (pc := 14) g7_ lfX13_13 rfl (by decide +kernel : decode cX13_lay 14 = .ok (.getfield 13, 3)) ?_
    obtain ⟨S9_, g10_, h⟩ := rv_b_e h
    have m8_ := metX13_plain n S4_ a6_ _ g10_
    have z11_ : rv_same S4_ S9_ := m8_.sh rfl
    refine re_cS (pc := 17) [.ref a6_] m8_ (rv_okl.k z11_) (rv_up.sh z11_) (by decide) (Nat.le_of_ble_eq_true rfl) lSX13_198 rfl (by decide +kernel : decode cX13_lay 17 = .ok (.invokestatic 198, 3)) ?_
    cases h
    exact re_vret (by decide +kernel : decode cX13_lay 20 = .ok (.return_, 1))
  · refine re_if_eq_f (pc := 4) 8 (by decide +kernel : decode cX13_lay 4 = .ok (.ifCond .eq 4, 3)) (by decide) g3_ ?_
    cases h
    exact re_vret (by decide +kernel : decode cX13_lay 7 = .ok (.return_, 1))
theorem metX13_lay (n : Nat) (S : rvS) (a0 : Nat) (S' : rvS) (h : fnX13_lay n S a0 = some S') : rv_Met yX13_lay mX13_lay 1 [.ref a0] S none S' := rv_Met.of ⟨by decide +kernel, rfl, (fun z => by first | rfl | cases z), rfl⟩ (Nat.le_of_ble_eq_true rfl) rfl (eX13_lay_in n S a0 S' h)
noncomputable def fnX13_begin (n : Nat) (S : rvS) (a0 : Nat) (x1 : Int32) : Option rvS :=
  (rv_pI S 11 a0 0 (0 : Int32)).bind fun S1_ =>
  (rv_ck S1_ 11 a0).bind fun u3_ =>
  (fnX13_lay n S1_ a0).bind fun S6_ =>
  (rv_ck S6_ 11 a0).bind fun u9_ =>
  rv_bp (fnX13_take n S6_ a0) fun x12_ S13_ =>
  (rv_pI S13_ 11 a0 3 x12_).bind fun S16_ =>
  (rv_pI S16_ 11 a0 4 x1).bind fun S18_ =>
  (rv_pI S18_ 11 a0 10 (0 : Int32)).bind fun S20_ =>
  (rv_pI S20_ 11 a0 5 (0 : Int32)).bind fun S22_ =>
  (rv_ck S22_ 11 a0).bind fun u24_ =>
  (fnX13_go n S22_ a0).bind fun S27_ =>
  some S27_
set_option maxRecDepth 20000 in
set_option maxHeartbeats 4000000 in
theorem eX13_begin_in (n : Nat) (S : rvS) (a0 : Nat) (x1 : Int32) (S' : rvS) (h : fnX13_begin n S a0 x1 = some S') : rv_Ev mX13_begin 2 0 [(0, .ref a0), (1, .int x1)] [] S none S' := by
  unfold fnX13_begin at h
  refine re_aloadn (pc := 0) 0 (by decide +kernel : decode cX13_begin 0 = .ok (.aload_n 0, 1)) rfl ?_
  refine re_iconst (pc := 1) (0 : Int32) (by decide +kernel : decode cX13_begin 1 = .ok (.iconst 0, 1)) (by decide) ?_
  obtain ⟨S1_, g2_, h⟩ := rv_b_e h
  refine re_pI (pc := 2) g2_ lfX13_99 rfl rfl rfl rfl (by decide +kernel : decode cX13_begin 2 = .ok (.putfield 99, 3)) ?_
  refine re_aloadn (pc := 5) 0 (by decide +kernel : decode cX13_begin 5 = .ok (.aload_n 0, 1)) rfl ?_
  obtain ⟨u3_, g4_, h⟩ := rv_b_e h
  obtain ⟨S6_, g7_, h⟩ := rv_b_e h
  have m5_ := metX13_lay n S1_ a0 _ g7_
  have z8_ : rv_same S1_ S6_ := m5_.sh rfl
  refine re_cV (pc := 6) [] m5_ (rv_okl.k z8_) (rv_up.sh z8_) (by decide) (rv_ck_e g4_) ⟨by decide, rfl⟩ (Nat.le_of_ble_eq_true rfl) lVX13_187 rfl (by decide +kernel : decode cX13_begin 6 = .ok (.invokevirtual 187, 3)) ?_
  refine re_aloadn (pc := 9) 0 (by decide +kernel : decode cX13_begin 9 = .ok (.aload_n 0, 1)) rfl ?_
  refine re_aloadn (pc := 10) 0 (by decide +kernel : decode cX13_begin 10 = .ok (.aload_n 0, 1)) rfl ?_
  obtain ⟨u9_, g10_, h⟩ := rv_b_e h
  obtain ⟨x12_, S13_, g14_, h⟩ := rv_bp_e h
  have m11_ := metX13_take n S6_ a0 _ _ g14_
  have z15_ : rv_same S6_ S13_ := m11_.sh rfl
  refine re_cV (pc := 11) [] m11_ (rv_okl.k z15_) (rv_up.sh z15_) (by decide) (rv_ck_e g10_) ⟨by decide, rfl⟩ (Nat.le_of_ble_eq_true rfl) lVX13_190 rfl (by decide +kernel : decode cX13_begin 11 = .ok (.invokevirtual 190, 3)) ?_
  obtain ⟨S16_, g17_, h⟩ := rv_b_e h
  refine re_pI (pc := 14) g17_ lfX13_109 rfl rfl rfl rfl (by decide +kernel : decode cX13_begin 14 = .ok (.putfield 109, 3)) ?_
  refine re_aloadn (pc := 17) 0 (by decide +kernel : decode cX13_begin 17 = .ok (.aload_n 0, 1)) rfl ?_
  refine re_iloadn (pc := 18) 1 (by decide +kernel : decode cX13_begin 18 = .ok (.iload_n 1, 1)) rfl ?_
  obtain ⟨S18_, g19_, h⟩ := rv_b_e h
  refine re_pI (pc := 19) g19_ lfX13_118 rfl rfl rfl rfl (by decide +kernel : decode cX13_begin 19 = .ok (.putfield 118, 3)) ?_
  refine re_aloadn (pc := 22) 0 (by decide +kernel : decode cX13_begin 22 = .ok (.aload_n 0, 1)) rfl ?_
  refine re_iconst (pc := 23) (0 : Int32) (by decide +kernel : decode cX13_begin 23 = .ok (.iconst 0, 1)) (by decide) ?_
  obtain ⟨S20_, g21_, h⟩ := rv_b_e h
  refine re_pI (pc := 24) g21_ lfX13_161 rfl rfl rfl rfl (by decide +kernel : decode cX13_begin 24 = .ok (.putfield 161, 3)) ?_
  refine re_aloadn (pc := 27) 0 (by decide +kernel : decode cX13_begin 27 = .ok (.aload_n 0, 1)) rfl ?_
  refine re_iconst (pc := 28) (0 : Int32) (by decide +kernel : decode cX13_begin 28 = .ok (.iconst 0, 1)) (by decide) ?_
  obtain ⟨S22_, g23_, h⟩ := rv_b_e h
  refine re_pI (pc := 29) g23_ lfX13_112 rfl rfl rfl rfl (by decide +kernel : decode cX13_begin 29 = .ok (.putfield 112, 3)) ?_
  refine re_aloadn (pc := 32) 0 (by decide +kernel : decode cX13_begin 32 = .ok (.aload_n 0, 1)) rfl ?_
  obtain ⟨u24_, g25_, h⟩ := rv_b_e h
  obtain ⟨S27_, g28_, h⟩ := rv_b_e h
  have m26_ := metX13_go n S22_ a0 _ g28_
  have z29_ : rv_same S22_ S27_ := m26_.sh rfl
  refine re_cV (pc := 33) [] m26_ (rv_okl.k z29_) (rv_up.sh z29_) (by decide) (rv_ck_e g25_) ⟨by decide, rfl⟩ (Nat.le_of_ble_eq_true rfl) lVX13_181 rfl (by decide +kernel : decode cX13_begin 33 = .ok (.invokevirtual 181, 3)) ?_
  cases h
  exact re_vret (by decide +kernel : decode cX13_begin 36 = .ok (.return_, 1))
theorem metX13_begin (n : Nat) (S : rvS) (a0 : Nat) (x1 : Int32) (S' : rvS) (h : fnX13_begin n S a0 x1 = some S') : rv_Met yX13_begin mX13_begin 2 [.ref a0, .int x1] S none S' := rv_Met.of ⟨by decide +kernel, rfl, (fun z => by first | rfl | cases z), rfl⟩ (Nat.le_of_ble_eq_true rfl) rfl (eX13_begin_in n S a0 x1 S' h)
