/-! SENTENCE: the whole call, both sides, one after the other -/
section
variable {n : Nat} {S C R : rvS} {b : Nat → Nat} {L q N o wi : Nat} {T : Tk} {m : Nat → Nat} {wd : Nat → List Nat} {st : List SayT}
theorem CR.steps {S' : rvS} (hR : CR S 67 m) (g : ∀ a, (a < 79 ∨ 84 ≤ a) → S'.2.1 a = S.2.1 a) : CR S' 67 m := by
  obtain ⟨X, eX⟩ : ∃ X : rvS, X = (S.1, fun a k => if 79 ≤ a ∧ a < 84 then S'.2.1 a k else S.2.1 a k, S.2.2.1, S.2.2.2) := ⟨_, rfl⟩
  have fX : rvf [79, 80, 81, 82, 83] S X := by
    rw [eX]
    refine ⟨rfl, rvr.rf rfl, fun a k ha => ⟨if_neg (fun z => ha ?_), rfl⟩⟩
    rw [lc_row (by
      have : a = 79 ∨ a = 80 ∨ a = 81 ∨ a = 82 ∨ a = 83 := by omega
      rcases this with rfl | rfl | rfl | rfl | rfl <;> rfl)]
    simp only [List.mem_cons, List.not_mem_nil, or_false]
    omega
  have hX : CR X 67 m := hR.f fX (Or.inl rfl) (Or.inl rfl) (Or.inr (by decide)) (Or.inr (by decide)) (Or.inr (by decide))
  refine CRe hX (fun i hi k => ?_)
  rw [eX]
  show S'.2.1 (67 + i) k = if 79 ≤ 67 + i ∧ 67 + i < 84 then S'.2.1 (67 + i) k else S.2.1 (67 + i) k
  by_cases c : 79 ≤ 67 + i ∧ 67 + i < 84
  · rw [if_pos c]
  · rw [if_neg c, g _ (by omega)]
theorem k_forgetT (hB : rv_B C) : ∃ C', fnX7_forget n C 99 = some C' ∧ rvf [99] C C' ∧ CSn C' 87 0 [] := by
  have c99 : rv_ck C 6 99 = some () := (SS_of hB (Or.inr (Or.inl rfl) : vb 87)).1
  refine ⟨rv_sI (rv_sI C 99 4 (nI 0)) 99 5 (nI 0), ?_, (rvf.sIr _ _ _ rfl).tr (rvf.sIr _ _ _ rfl), ?_, ?_, fun j t h => (by cases h), Nat.zero_le _, fun t h => (by cases h)⟩
  · rw [fnX7_forget]
    repeat (first | (conv => (lhs; arg 1; simp (disch := first | assumption | omega) only [tk_gI, tk_gL, tk_gR, tk_pI, tk_pL, rv_aI, rv_aL, rv_aR, rv_uI, rv_uL, rv_uB, rv_uZ, pu_ckI, pu_ckL, pu_lnI, pu_lnL, tk_rI, tk_rL, Option.bind_some, Option.map_some, rv_lt, tk_ix, z0, c99])); first | rw [Option.bind_some] | rw [bp_s] | rw [if_true] | rw [if_false] | rw [rv_lt_eq] | rw [if_pos (by omega)] | rw [if_neg (by omega)])
  · show (rv_sI (rv_sI C 99 4 (nI 0)) 99 5 (nI 0)).2.1 99 4 = nI 0
    rw [rv_sI_k _ _ (by decide), rv_sI_eq]
  · exact rv_sI_eq _ _ _ _
abbrev DRb : List Nat := [189000, 189002, 189003, 189004, 189005, 189006, 189007, 189008, 189009, 189010, 189012, 189022, 189056, 189057, 189058, 191]
theorem m_sbegin (hn : 1000 ≤ n) (hB : rv_B S) (hL : MRL S m) (h940 : L ≤ 940) (h2 : S.2.1 189 2 = nI L) (hb : ∀ j, j < L → b j < 256 ∧ S.2.1 190 j = nI (b j)) : ∃ R', fnX13_sentence n S 189 = mRd n R' ∧ rvf DRb S R' ∧ TXR R' b L 200 ∧ KR R' (tq_nx b L 200 0) ∧ MR R' m ∧ R42 S R' ∧ ¬ R'.2.1 189 22 = 0 ∧ R'.2.1 189 2 = nI 0 ∧ R'.2.1 189 10 = nI 0 ∧ R'.2.1 189 56 = nI 0 ∧ R'.2.1 189 57 = nI 0 ∧ R'.2.1 189 58 = nI 0 := by
  obtain ⟨R1, e1, f1, t1, k1, m1, q1, b1, z2', z10'⟩ := m_begin (n := n) hn hB hL h940 h2 hb (M := 200) (by decide)
  have e1 : fnX13_begin n S 189 (200 : Int32) = some R1 := e1
  have hB1 := f1.B hB
  obtain ⟨R3, e3⟩ : ∃ R3, R3 = rv_sI (rv_sI (rv_sI R1 189 56 (nI 0)) 189 57 (nI 0)) 189 58 (nI 0) := ⟨_, rfl⟩
  have fz : rvf [189056, 189057, 189058] R1 R3 := by
    rw [e3]
    exact (((rvf.sI R1 189 56 _).mono rfl).tr ((rvf.sI _ 189 57 _).mono rfl)).tr ((rvf.sI _ 189 58 _).mono rfl)
  refine ⟨R3, ?_, (f1.mono rfl).tr (fz.mono rfl), t1.f fz rfl rfl rfl, ?_, fun k hk => ?_, fun j hj => ?_, ?_, ?_, ?_, ?_, ?_, ?_⟩
  · rw [fnX13_sentence]
    repeat (first | (conv => (lhs; arg 1; simp (disch := first | assumption | omega) only [tk_gI, tk_gL, tk_gR, tk_pI, tk_pL, rv_aI, rv_aL, rv_aR, rv_uI, rv_uL, rv_uB, rv_uZ, pu_ckI, pu_ckL, pu_lnI, pu_lnL, tk_rI, tk_rL, Option.bind_some, Option.map_some, rv_lt, tk_ix, z0, rc_189 hB, e1, rc_189 hB1])); first | rw [Option.bind_some] | rw [bp_s] | rw [if_true] | rw [if_false] | rw [rv_lt_eq] | rw [if_pos (by omega)] | rw [if_neg (by omega)])
    rw [← e3]
    rfl
  · obtain ⟨p1, p2, p3, p4, p5, p6⟩ := k1
    refine ⟨?_, ?_, ?_, fun z z' => ?_, fun z => ?_, fun z => ?_⟩
    · rw [fz.at (a := 189) (k := 5) rfl]; exact p1
    · rw [fz.at (a := 189) (k := 6) rfl]; exact p2
    · rw [fz.at (a := 189) (k := 7) rfl]; exact p3
    · rw [fz.at (a := 189) (k := 9) rfl]; exact p4 z z'
    · rw [fz.at (a := 189) (k := 8) rfl]; exact p5 z
    · rw [fz.atL (a := 189) (k := 12) rfl]; exact p6 z
  · rw [fz.row (a := 191) rfl rfl]; exact m1 k hk
  · rw [fz.row (a := 191) rfl rfl]; exact q1 j hj
  · rw [fz.at (a := 189) (k := 22) rfl]; exact b1
  · rw [fz.at (a := 189) (k := 2) rfl]; exact z2'
  · rw [fz.at (a := 189) (k := 10) rfl]; exact z10'
  · rw [e3, rv_sI_k _ _ (by decide), rv_sI_k _ _ (by decide), rv_sI_eq]
  · rw [e3, rv_sI_k _ _ (by decide), rv_sI_eq]
  · rw [e3, rv_sI_eq]
abbrev DSN : List Nat := [64011, 65001, 65002, 65003, 65004, 65005, 65006, 65007, 65008, 65009, 65010, 67, 68, 69, 70, 71, 72, 73, 74, 75, 76, 77, 78, 79, 80, 81, 82, 83, 84, 85, 86, 99, 100, 101, 102, 189000, 189002, 189003, 189004, 189005, 189006, 189007, 189008, 189009, 189010, 189011, 189012, 189013, 189022, 189056, 189057, 189058, 189059, 191, 216]
theorem op_sentence (hn : 1000 ≤ n) {o : Nat} {st : List SayT} (hW : NW S m wd o st) (ht : rv_tp S L) : ∃ r S1 S' o' st' f, fnX12_sentence n S 64 = some (r, S1) ∧ fnX13_sentence n S1 189 = some (r, S') ∧ NW S' m wd o' st' ∧ rv_tp S' 0 ∧ S'.2.1 64 11 = nI f ∧ S'.2.1 189 10 = nI f ∧ rvf DSN S S' := by
  obtain ⟨hV, hCS, hCp⟩ := hW
  obtain ⟨hB, hR, hL, hk, hNC, hNM, hok⟩ := id hV
  obtain ⟨b, hTB⟩ := TB_of ht
  obtain ⟨t1, t2, t3, t4⟩ := id hTB
  have h24 := hk.1.1
  have h16 := hk.2.2.2.2.2.2.1
  have h6w := hk.2.2.2.2.2.2.2.1
  obtain ⟨C1, eO, fO, tO, kO, o9, o10⟩ := k_openT (n := n) hn hB hTB (M := 200) (by decide)
  have eO : fnX8_open n S 65 (200 : Int32) = some C1 := eO
  have hB1 := fO.B hB
  have hv : vb 87 := Or.inr (Or.inl rfl)
  have hv67 : vb 67 := Or.inl rfl
  obtain ⟨C2, eF, fF, sF⟩ := k_forgetT (n := n) hB1
  have hB2 := fF.B hB1
  have f02 : rvf [65002, 65003, 65004, 65005, 65006, 65007, 65008, 65009, 65010, 99] S C2 := (fO.mono rfl).tr (fF.mono rfl)
  have r640 : ∀ {Z : rvS}, rv_B Z → Z.2.2.2 64 0 = some 65 := fun h => rf_of h (by decide)
  have r641 : ∀ {Z : rvS}, rv_B Z → Z.2.2.2 64 1 = some 67 := fun h => rf_of h (by decide)
  have r642 : ∀ {Z : rvS}, rv_B Z → Z.2.2.2 64 2 = some 87 := fun h => rf_of h (by decide)
  have r870 : ∀ {Z : rvS}, rv_B Z → Z.2.2.2 87 2 = some 99 := fun h => rf_of h (by decide)
  have r672 : ∀ {Z : rvS}, rv_B Z → Z.2.2.2 67 2 = some 79 := fun h => rf_of h (by decide)
  have r670 : ∀ {Z : rvS}, rv_B Z → Z.2.2.2 67 0 = some 68 := fun h => rf_of h (by decide)
  have c99 : ∀ {Z : rvS}, rv_B Z → rv_ck Z 6 99 = some () := fun h => (SS_of h hv).1
  have c79 : ∀ {Z : rvS}, rv_B Z → rv_ck Z 6 79 = some () := fun h => (SS_of h hv67).1
  have run : ∀ Z, rv_B Z → MRL Z m → Z.2.1 189 2 = nI L → (∀ j, j < L → b j < 256 ∧ Z.2.1 190 j = nI (b j)) → (∀ w, w < m 6 → Z.2.2.1 195 w = lN (c27 (wd w))) → ∃ RZ, fnX13_sentence n Z 189 = mRd n RZ ∧ rvf DRb Z RZ ∧ MR RZ m ∧ R42 Z RZ ∧ (¬ RZ.2.1 189 22 = 0) ∧ RZ.2.1 189 2 = nI 0 ∧ SV C2 RZ b L (tq_nx b L 200 0) (m 6) (vW m) wd [] 0 0 := by
    intro Z hZ hLZ g2 gb gn
    obtain ⟨RZ, e1, f1, x1, k1, mm, r42, b22, p2, p10, p56, p57, p58⟩ := m_sbegin (n := n) hn hZ hLZ t1 g2 gb
    have hK : KX C2 RZ b L 200 (tq_nx b L 200 0) := ⟨hB2, f1.B hZ, tO.f fF rfl rfl rfl, x1, kO.f fF rfl, k1, tx_ok t1 (by decide) (fun j hj => (t4 j hj).1) (Nat.zero_le L), tx_to (Nat.zero_le L), p10⟩
    refine ⟨RZ, e1, f1, mm, r42, b22, p2, hK, sF, ⟨p56, p57, p58⟩, Nat.le_refl _, Nat.zero_le _, ?_, h24, h6w, fun w hw => ?_, mm 6 (by decide), h16, fun w hw => ?_, hok⟩
    · exact (f02.row (a := 68) rfl rfl 0).trans hR.1.1
    · exact (f02.rowL (a := 72) rfl rfl w).trans (hNC w hw)
    · exact (f1.rowL (a := 195) rfl rfl w).trans (gn w hw)
  have top : ∀ X, (rv_bp (kRd n C2) fun x22_ S23_ => if x22_ = 0 then cX12_sentence_53 n S23_ 64 x22_ else (rv_gR S23_ 10 64 1).bind fun a27_ => (rv_gR S23_ 8 a27_ 2).bind fun a29_ => (rv_gR S23_ 10 64 2).bind fun a31_ => (rv_gR S23_ 8 a31_ 2).bind fun a33_ => (rv_ck S23_ 6 a29_).bind fun u35_ => (fnX7_copyFrom n S23_ a29_ a33_).bind fun S38_ => cX12_sentence_53 n S38_ 64 x22_) = X → fnX12_sentence n S 64 = X := fun X hX => by
    have er : fnX7_read n C1 99 65 68 = kRd n C2 := by
      rw [fnX7_read, c99 hB1, Option.bind_some, eF, Option.bind_some, c99 hB2, Option.bind_some]
      rfl
    rw [fnX12_sentence]
    repeat (first | (conv => (lhs; arg 1; simp (disch := first | assumption | omega) only [tk_gI, tk_gL, tk_gR, tk_pI, tk_pL, rv_aI, rv_aL, rv_aR, rv_uI, rv_uL, rv_uB, rv_uZ, pu_ckI, pu_ckL, pu_lnI, pu_lnL, tk_rI, tk_rL, Option.bind_some, Option.map_some, rv_lt, tk_ix, rc_64 hB, r640 hB, rc_65 hB])); first | rw [Option.bind_some] | rw [bp_s] | rw [if_true] | rw [if_false] | rw [rv_lt_eq] | rw [if_pos (by omega)] | rw [if_neg (by omega)])
    rw [eO, Option.bind_some]
    repeat (first | (conv => (lhs; arg 1; simp (disch := first | assumption | omega) only [tk_gI, tk_gL, tk_gR, tk_pI, tk_pL, rv_aI, rv_aL, rv_aR, rv_uI, rv_uL, rv_uB, rv_uZ, pu_ckI, pu_ckL, pu_lnI, pu_lnL, tk_rI, tk_rL, Option.bind_some, Option.map_some, rv_lt, tk_ix, rc_64 hB1, r640 hB1, r641 hB1, r642 hB1, rc_87 hB1, r870 hB1, rc_67 hB1, r670 hB1, c99 hB1])); first | rw [Option.bind_some] | rw [bp_s] | rw [if_true] | rw [if_false] | rw [rv_lt_eq] | rw [if_pos (by omega)] | rw [if_neg (by omega)])
    rw [er]
    exact hX
  have tail : ∀ {Z : rvS} (x : Int32), rv_B Z → cX12_sentence_53 n Z 64 x = fnX12_closeTape n Z 64 x (Z.2.1 99 5) := fun {Z} x h => by
    rw [cX12_sentence_53]
    repeat (first | (conv => (lhs; arg 1; simp (disch := first | assumption | omega) only [tk_gI, tk_gL, tk_gR, tk_pI, tk_pL, rv_aI, rv_aL, rv_aR, rv_uI, rv_uL, rv_uB, rv_uZ, pu_ckI, pu_ckL, pu_lnI, pu_lnL, tk_rI, tk_rL, Option.bind_some, Option.map_some, rv_lt, tk_ix, rc_64 h, r642 h, rc_87 h, r870 h, c99 h])); first | rw [Option.bind_some] | rw [bp_s] | rw [if_true] | rw [if_false] | rw [rv_lt_eq] | rw [if_pos (by omega)] | rw [if_neg (by omega)])
    cases hc : fnX12_closeTape n Z 64 x (Z.2.1 99 5) with
    | none => rfl
    | some p => rfl
  have close0 : ∀ {Z : rvS} (x y : Int32), rv_B Z → x = 0 → fnX12_closeTape n Z 64 x y = some ((-1 : Int32) - Z.2.1 65 10, rv_sI (rv_sI Z 64 11 (Z.2.1 65 9)) 65 1 (nI 0)) := fun {Z} x y h hx => by
    have c64 := rc_64 h
    have c65 := rc_65 h
    have e0 := r640 h
    have s10 : (rv_sI (rv_sI Z 64 11 (Z.2.1 65 9)) 65 1 (nI 0)).2.1 65 10 = Z.2.1 65 10 := by rw [rv_sI_k _ _ (by decide), rv_sI_a _ _ _ (by decide)]
    rw [fnX12_closeTape, if_pos hx]
    repeat (first | (conv => (lhs; arg 1; simp (disch := first | assumption | omega) only [tk_gI, tk_gL, tk_gR, tk_pI, tk_pL, rv_aI, rv_aL, rv_aR, rv_uI, rv_uL, rv_uB, rv_uZ, pu_ckI, pu_ckL, pu_lnI, pu_lnL, tk_rI, tk_rL, Option.bind_some, Option.map_some, rv_lt, tk_ix, c64, c65, e0])); first | rw [Option.bind_some] | rw [bp_s] | rw [if_true] | rw [if_false] | rw [rv_lt_eq] | rw [if_pos (by omega)] | rw [if_neg (by omega)])
    rw [cX12_closeTape_16]
    repeat (first | (conv => (lhs; arg 1; simp (disch := first | assumption | omega) only [tk_gI, tk_gL, tk_gR, tk_pI, tk_pL, rv_aI, rv_aL, rv_aR, rv_uI, rv_uL, rv_uB, rv_uZ, pu_ckI, pu_ckL, pu_lnI, pu_lnL, tk_rI, tk_rL, Option.bind_some, Option.map_some, rv_lt, tk_ix, z0, c64, c65, e0])); first | rw [Option.bind_some] | rw [bp_s] | rw [if_true] | rw [if_false] | rw [rv_lt_eq] | rw [if_pos (by omega)] | rw [if_neg (by omega)])
    rw [if_pos hx]
    repeat (first | (conv => (lhs; arg 1; simp (disch := first | assumption | omega) only [tk_gI, tk_gL, tk_gR, tk_pI, tk_pL, rv_aI, rv_aL, rv_aR, rv_uI, rv_uL, rv_uB, rv_uZ, pu_ckI, pu_ckL, pu_lnI, pu_lnL, tk_rI, tk_rL, Option.bind_some, Option.map_some, rv_lt, tk_ix, c64, c65, e0, s10])); first | rw [Option.bind_some] | rw [bp_s] | rw [if_true] | rw [if_false] | rw [rv_lt_eq] | rw [if_pos (by omega)] | rw [if_neg (by omega)])
  have close1 : ∀ {Z : rvS} (x y : Int32), rv_B Z → ¬ x = 0 → fnX12_closeTape n Z 64 x y = some (y, rv_sI (rv_sI Z 64 11 (nI 0)) 65 1 (nI 0)) := fun {Z} x y h hx => by
    have c64 := rc_64 h
    have c65 := rc_65 h
    have e0 := r640 h
    rw [fnX12_closeTape, if_neg hx, cX12_closeTape_16]
    repeat (first | (conv => (lhs; arg 1; simp (disch := first | assumption | omega) only [tk_gI, tk_gL, tk_gR, tk_pI, tk_pL, rv_aI, rv_aL, rv_aR, rv_uI, rv_uL, rv_uB, rv_uZ, pu_ckI, pu_ckL, pu_lnI, pu_lnL, tk_rI, tk_rL, Option.bind_some, Option.map_some, rv_lt, tk_ix, z0, c64, c65, e0])); first | rw [Option.bind_some] | rw [bp_s] | rw [if_true] | rw [if_false] | rw [rv_lt_eq] | rw [if_pos (by omega)] | rw [if_neg (by omega)])
    rw [if_neg hx]
  obtain ⟨RS, -, -, -, -, -, -, sv0⟩ := run S hB hL t3 (fun j hj => ⟨(t4 j hj).1, (t4 j hj).2.1⟩) hNM
  obtain ⟨C3, R3, f3, -, res⟩ := read_all (n := n) hn sv0
  have hB3 := f3.B hB2
  have f03 : rvf [65002, 65003, 65004, 65005, 65006, 65007, 65008, 65009, 65010, 99, 100, 101, 102] S C3 := (f02.mono rfl).tr (f3.mono rfl)
  rcases res with ⟨eC, -, -⟩ | ⟨T0, l0, j0, top0, d0, eC, -, sv1, -, -, -⟩
  · -- a fault
    obtain ⟨S1, eS1⟩ : ∃ S1, S1 = rv_sI (rv_sI C3 64 11 (C3.2.1 65 9)) 65 1 (nI 0) := ⟨_, rfl⟩
    have f1 : rvf [64011, 65001] C3 S1 := by
      rw [eS1]
      exact ((rvf.sI C3 64 11 _).mono rfl).tr ((rvf.sI _ 65 1 _).mono rfl)
    have q1 : rvf [64011, 65001, 65002, 65003, 65004, 65005, 65006, 65007, 65008, 65009, 65010, 99, 100, 101, 102] S S1 := (f03.mono rfl).tr (f1.mono rfl)
    have hBS1 := q1.B hB
    have hL1 : MRL S1 m := fun k hk => by
      rw [q1.at (a := 189) (k := 22) rfl, q1.row (a := 191) rfl rfl]; exact hL k hk
    obtain ⟨RZ, eZ, fZ, mmZ, r42Z, b22Z, p2Z, svZ⟩ := run S1 hBS1 hL1 ((q1.at (a := 189) (k := 2) rfl).trans t3) (fun j hj => ⟨(t4 j hj).1, (q1.row (a := 190) rfl rfl j).trans (t4 j hj).2.1⟩) (fun w hw => (q1.rowL (a := 195) rfl rfl w).trans (hNM w hw))
    obtain ⟨C5, R5, fc5, fr5, res5⟩ := read_all (n := n) hn svZ
    rcases res5 with ⟨e5, e6, f, p, hf4, hp, g1, g2, g3, g4⟩ | ⟨T5, l5, j5, top5, d5, e5, -⟩
    · rw [eC] at e5
      have hC54 : C5 = C3 := by
        have := Option.some.inj e5
        exact (Prod.mk.inj this).2.symm
      rw [hC54] at g1 g2
      have fa : rvf [189000, 189002, 189003, 189004, 189005, 189006, 189007, 189008, 189009, 189010, 189011, 189012, 189013, 189022, 189056, 189057, 189058, 189059, 191, 216] S1 R5 := (fZ.mono rfl).tr (fr5.mono rfl)
      have fb : rvf [64011, 65001, 65002, 65003, 65004, 65005, 65006, 65007, 65008, 65009, 65010, 99, 100, 101, 102, 189000, 189002, 189003, 189004, 189005, 189006, 189007, 189008, 189009, 189010, 189011, 189012, 189013, 189022, 189056, 189057, 189058, 189059, 191, 216] S R5 := (q1.mono rfl).tr (fa.mono rfl)
      have hM5 : MR R5 m := fun k hk => by rw [fr5.row (a := 191) rfl rfl]; exact mmZ k hk
      have b5 : ¬ R5.2.1 189 22 = 0 := by rw [fr5.at (a := 189) (k := 22) rfl]; exact b22Z
      have k42 : ∀ j, 420 ≤ j → R5.2.1 191 j = S.2.1 191 j := fun j hj => by rw [fr5.row (a := 191) rfl rfl, r42Z j hj, q1.row (a := 191) rfl rfl]
      refine ⟨(-1 : Int32) - C3.2.1 65 10, S1, R5, o, st, f, top _ ?_, ?_, ⟨hV.q fb rfl (MRL.of hM5 b5), ?_, hCp.c (fun j hj => k42 _ (by omega))⟩, ⟨Nat.zero_le _, ?_, ?_, fun j hj => absurd hj (Nat.not_lt_zero j)⟩, ?_, ?_, fb.mono rfl⟩
      · rw [eC, bp_s, if_pos rfl, tail _ hB3, close0 _ _ hB3 rfl, eS1]
      · rw [eZ, e6, g2, g4]
      · exact hCS.f (S' := R5) (fun x hx => funext fun k => by rcases hx with rfl | rfl | rfl <;> exact fb.row rfl rfl k) (fun k => fb.rowR (a := 80) rfl rfl k)
      · rw [fa.at (a := 65) (k := 1) rfl, eS1, rv_sI_eq]
      · rw [fr5.at (a := 189) (k := 2) rfl]; exact p2Z
      · rw [fa.at (a := 64) (k := 11) rfl, eS1, rv_sI_a _ _ _ (by decide), rv_sI_eq]; exact g1
      · exact g3
    · rw [eC] at e5
      have := Option.some.inj e5
      exact absurd (Prod.mk.inj this).1 (by decide)
  · -- a sentence
    obtain ⟨C4, e4, i4, cs4, g4⟩ := k_copyS (n := n) (by omega) hB3 hv67 hv (by decide) sv1.2.1
    have e4 : fnX7_copyFrom n C3 79 99 = some C4 := e4
    have hB4 := i4.B hB3
    have f4 : rvf D67 C3 C4 := i4.f (by decide)
    obtain ⟨S1, eS1⟩ : ∃ S1, S1 = rv_sI (rv_sI C4 64 11 (nI 0)) 65 1 (nI 0) := ⟨_, rfl⟩
    have f1 : rvf [64011, 65001] C4 S1 := by
      rw [eS1]
      exact ((rvf.sI C4 64 11 _).mono rfl).tr ((rvf.sI _ 65 1 _).mono rfl)
    have q1 : rvf DSN S S1 := ((f03.mono rfl).tr (f4.mono rfl)).tr (f1.mono rfl)
    have hBS1 := q1.B hB
    have n190 : ∀ k, S1.2.1 190 k = S.2.1 190 k := fun k => q1.row (a := 190) rfl rfl k
    have n191 : ∀ k, S1.2.1 191 k = S.2.1 191 k := fun k => (f1.row (a := 191) rfl rfl k).trans ((f4.row (a := 191) rfl rfl k).trans (f03.row (a := 191) rfl rfl k))
    have n189 : ∀ k, (k = 2 ∨ k = 22) → S1.2.1 189 k = S.2.1 189 k := fun k hk => by
      rcases hk with rfl | rfl
      · exact (f1.at (a := 189) (k := 2) rfl).trans ((f4.at (a := 189) (k := 2) rfl).trans (f03.at (a := 189) (k := 2) rfl))
      · exact (f1.at (a := 189) (k := 22) rfl).trans ((f4.at (a := 189) (k := 22) rfl).trans (f03.at (a := 189) (k := 22) rfl))
    have hL1 : MRL S1 m := fun k hk => by
      rw [n189 22 (Or.inr rfl), n191]; exact hL k hk
    obtain ⟨RZ, eZ, fZ, mmZ, r42Z, b22Z, p2Z, svZ⟩ := run S1 hBS1 hL1 ((n189 2 (Or.inl rfl)).trans t3) (fun j hj => ⟨(t4 j hj).1, (n190 j).trans (t4 j hj).2.1⟩) (fun w hw => (q1.rowL (a := 195) rfl rfl w).trans (hNM w hw))
    obtain ⟨C5, R5, fc5, fr5, res5⟩ := read_all (n := n) hn svZ
    rcases res5 with ⟨e5, -, -⟩ | ⟨T5, l5, j5, top5, d5, e5, e6, sv5, hl5, h59, hD5⟩
    · rw [eC] at e5
      have := Option.some.inj e5
      exact absurd (Prod.mk.inj this).1 (by decide)
    · rw [eC] at e5
      have hC54 : C5 = C3 := by
        have := Option.some.inj e5
        exact (Prod.mk.inj this).2.symm
      rw [hC54] at sv5
      obtain ⟨C6, e6', -, cs6, -⟩ := k_copyS (n := n) (by omega) hB3 hv67 hv (by decide) sv5.2.1
      have e6' : fnX7_copyFrom n C3 79 99 = some C6 := e6'
      have hC64 : C6 = C4 := by
        rw [e4] at e6'
        exact (Option.some.inj e6').symm
      rw [hC64] at cs6
      have hBR5 := sv5.1.2.1
      have h40 := cs6.2.2.2.1
      have ho5 := sv5.2.2.2.2.1
      obtain ⟨R6, e7, f7, w420, w421, wN, wK⟩ := m_copyN (n := n) hn hBR5 sv5.2.2.1.2.1 h59
      have fa : rvf [189000, 189002, 189003, 189004, 189005, 189006, 189007, 189008, 189009, 189010, 189011, 189012, 189013, 189022, 189056, 189057, 189058, 189059, 191, 216] S1 R6 := ((fZ.mono rfl).tr (fr5.mono rfl)).tr (f7.mono rfl)
      have fb : rvf DSN S R6 := (q1.mono rfl).tr (fa.mono rfl)
      have hB6 := fb.B hB
      have ff : rvf [64011, 65001, 189000, 189002, 189003, 189004, 189005, 189006, 189007, 189008, 189009, 189010, 189011, 189012, 189013, 189022, 189056, 189057, 189058, 189059, 191, 216] C4 R6 := (f1.mono rfl).tr (fa.mono rfl)
      have hM6 : MR R6 m := fun k hk => by rw [wK k hk, fr5.row (a := 191) rfl rfl]; exact mmZ k hk
      have b6 : ¬ R6.2.1 189 22 = 0 := by rw [f7.at (a := 189) (k := 22) rfl, fr5.at (a := 189) (k := 22) rfl]; exact b22Z
      have crC3 : CR C3 67 m := hR.f f03 hv67 (Or.inl rfl) (Or.inr (by decide)) (Or.inr (by decide)) (Or.inr (by decide))
      have crC4 : CR C4 67 m := crC3.steps (fun a ha => (g4 a (by omega)).1)
      have c99e : C4.2.1 99 5 = nI j5 := by rw [(g4 99 (by decide)).1]; exact sv5.2.1.2.1
      have nj : ¬ (1 : Int32) = 0 := by decide
      refine ⟨nI j5, S1, R6, j5, l5, 0, top _ ?_, ?_, ⟨⟨hB6, crC4.f ff hv67 (Or.inl rfl) (Or.inr (by decide)) (Or.inr (by decide)) (Or.inr (by decide)), MRL.of hM6 b6, hk, fun w hw => ?_, fun w hw => ?_, hok⟩, ?_, Or.inr ⟨by omega, ho5, w420, top5, d5, w421, ?_⟩⟩, ⟨Nat.zero_le _, ?_, ?_, fun j hj => absurd hj (Nat.not_lt_zero j)⟩, ?_, ?_, fb⟩
      · rw [eC, bp_s, if_neg nj]
        repeat (first | (conv => (lhs; arg 1; simp (disch := first | assumption | omega) only [tk_gI, tk_gL, tk_gR, tk_pI, tk_pL, rv_aI, rv_aL, rv_aR, rv_uI, rv_uL, rv_uB, rv_uZ, pu_ckI, pu_ckL, pu_lnI, pu_lnL, tk_rI, tk_rL, Option.bind_some, Option.map_some, rv_lt, tk_ix, rc_64 hB3, r641 hB3, r642 hB3, rc_67 hB3, r672 hB3, rc_87 hB3, r870 hB3, c79 hB3])); first | rw [Option.bind_some] | rw [bp_s] | rw [if_true] | rw [if_false] | rw [rv_lt_eq] | rw [if_pos (by omega)] | rw [if_neg (by omega)])
        rw [e4, Option.bind_some, tail _ hB4, c99e, close1 _ _ hB4 nj, eS1]
      · rw [eZ, e6, e7]
      · have := ff.rowL (a := 72) rfl rfl w
        exact this.trans ((congrFun (g4 72 (by decide)).2 w).trans ((f03.rowL (a := 72) rfl rfl w).trans (hNC w hw)))
      · exact (fb.rowL (a := 195) rfl rfl w).trans (hNM w hw)
      · exact cs6.f (S' := R6) (fun x hx => funext fun k => by rcases hx with rfl | rfl | rfl <;> exact ff.row rfl rfl k) (fun k => ff.rowR (a := 80) rfl rfl k)
      · refine hD5.den (by omega) (fun j h1 h2 => ?_)
        show R6.2.1 191 (420 + j) = R5.2.1 216 (j - 2)
        have := wN (j - 2) (by omega)
        rw [show 422 + (j - 2) = 420 + j by omega] at this
        exact this
      · rw [fa.at (a := 65) (k := 1) rfl, eS1, rv_sI_eq]
      · rw [f7.at (a := 189) (k := 2) rfl, fr5.at (a := 189) (k := 2) rfl]; exact p2Z
      · rw [fa.at (a := 64) (k := 11) rfl, eS1, rv_sI_a _ _ _ (by decide), rv_sI_eq]
      · rw [f7.at (a := 189) (k := 10) rfl]
        exact sv5.1.2.2.2.2.2.2.2.2
end
