/-! THE TEXTS: how both sides begin -/
section
variable {n : Nat} {S C R : rvS} {b : Nat → Nat} {L M : Nat} {m : Nat → Nat} {wd : Nat → List Nat}
/-- the bytes on the tape -/
def TB (S : rvS) (b : Nat → Nat) (L : Nat) : Prop := L ≤ 940 ∧ S.2.1 65 1 = nI L ∧ S.2.1 189 2 = nI L ∧ ∀ j, j < L → b j < 256 ∧ S.2.1 190 j = nI (b j) ∧ S.2.1 66 j &&& 255 = nI (b j)
theorem TB_of (h : rv_tp S L) : ∃ b, TB S b L := by
  obtain ⟨h1, h2, h3, h4⟩ := h
  refine ⟨fun j => if hj : j < L then Classical.choose (h4 j hj) else 0, h1, h2, h3, fun j hj => ?_⟩
  show (if hj : j < L then Classical.choose (h4 j hj) else 0) < 256 ∧ _ = nI (if hj : j < L then Classical.choose (h4 j hj) else 0) ∧ _ = nI (if hj : j < L then Classical.choose (h4 j hj) else 0)
  rw [dif_pos hj]
  exact Classical.choose_spec (h4 j hj)
abbrev DOp : List Nat := [65002, 65003, 65004, 65005, 65006, 65007, 65008, 65009, 65010]
theorem k_openT (hn : 1000 ≤ n) (hB : rv_B S) (hT : TB S b L) (hM : M ≤ 900) : ∃ C', fnX8_open n S 65 (nI M) = some C' ∧ rvf DOp S C' ∧ TXC C' b L M ∧ KC C' (tq_nx b L M 0) ∧ C'.2.1 65 9 = nI 0 ∧ C'.2.1 65 10 = nI 0 := by
  obtain ⟨t1, t2, t3, t4⟩ := hT
  obtain ⟨S4, e4⟩ : ∃ S4, S4 = rv_sI (rv_sI (rv_sI (rv_sI S 65 2 (nI M)) 65 3 (nI 0)) 65 9 (nI 0)) 65 10 (nI 0) := ⟨_, rfl⟩
  have f4 : rvf DOp S S4 := by
    rw [e4]
    exact (((((rvf.sI S 65 2 _).mono rfl).tr ((rvf.sI _ 65 3 _).mono rfl)).tr ((rvf.sI _ 65 9 _).mono rfl)).tr ((rvf.sI _ 65 10 _).mono rfl))
  have hB4 := f4.B hB
  have hT4 : TXC S4 b L M := by
    refine ⟨t1, hM, ?_, ?_, fun j hj => ⟨(t4 j hj).1, ?_⟩⟩
    · rw [f4.at (a := 65) (k := 1) rfl]; exact t2
    · rw [e4, rv_sI_k _ _ (by decide), rv_sI_k _ _ (by decide), rv_sI_k _ _ (by decide), rv_sI_eq]
    · rw [f4.row (a := 66) rfl rfl]; exact (t4 j hj).2.2
  have g3 : S4.2.1 65 3 = nI 0 := by rw [e4, rv_sI_k _ _ (by decide), rv_sI_k _ _ (by decide), rv_sI_eq]
  have g9 : S4.2.1 65 9 = nI 0 := by rw [e4, rv_sI_k _ _ (by decide), rv_sI_eq]
  have g10 : S4.2.1 65 10 = nI 0 := by rw [e4, rv_sI_eq]
  obtain ⟨C', e, f, k⟩ := kt_next (n := n) hn hB4 hT4 g3 (Nat.zero_le L)
  refine ⟨C', ?_, f4.tr (f.mono rfl), hT4.f f rfl rfl rfl, k, by rw [f.at (a := 65) (k := 9) rfl]; exact g9, by rw [f.at (a := 65) (k := 10) rfl]; exact g10⟩
  rw [fnX8_open]
  repeat (first | (conv => (lhs; arg 1; simp (disch := first | assumption | omega) only [tk_gI, tk_gL, tk_gR, tk_pI, tk_pL, rv_aI, rv_aL, rv_aR, rv_uI, rv_uL, rv_uB, rv_uZ, pu_ckI, pu_ckL, pu_lnI, pu_lnL, tk_rI, tk_rL, Option.bind_some, Option.map_some, rv_lt, tk_ix, z0, rc_65 hB])); first | rw [Option.bind_some] | rw [bp_s] | rw [if_true] | rw [if_false] | rw [rv_lt_eq] | rw [if_pos (by omega)] | rw [if_neg (by omega)])
  rw [← e4, e]
  rfl
abbrev DBg : List Nat := [189000, 189002, 189003, 189004, 189005, 189006, 189007, 189008, 189009, 189010, 189012, 189022, 191]
theorem m_begin (hn : 1000 ≤ n) (hB : rv_B S) (hL : MRL S m) (h940 : L ≤ 940) (h2 : S.2.1 189 2 = nI L) (hb : ∀ j, j < L → b j < 256 ∧ S.2.1 190 j = nI (b j)) (hM : M ≤ 900) : ∃ R', fnX13_begin n S 189 (nI M) = some R' ∧ rvf DBg S R' ∧ TXR R' b L M ∧ KR R' (tq_nx b L M 0) ∧ MR R' m ∧ R42 S R' ∧ ¬ R'.2.1 189 22 = 0 ∧ R'.2.1 189 2 = nI 0 ∧ R'.2.1 189 10 = nI 0 := by
  obtain ⟨S6, e6, hB6, f6, hM6, r6, b6⟩ := start_ok (n := n) (by omega) hB hL
  have g2 : S6.2.1 189 2 = nI L := (f6.at (a := 189) (k := 2) rfl).trans h2
  obtain ⟨S5, e5⟩ : ∃ S5, S5 = rv_sI (rv_sI (rv_sI (rv_sI (rv_sI S6 189 2 (nI 0)) 189 3 (nI L)) 189 4 (nI M)) 189 10 (nI 0)) 189 5 (nI 0) := ⟨_, rfl⟩
  have f5 : rvf [189002, 189003, 189004, 189005, 189010] S6 S5 := by
    rw [e5]
    exact (((((rvf.sI S6 189 2 _).mono rfl).tr ((rvf.sI _ 189 3 _).mono rfl)).tr ((rvf.sI _ 189 4 _).mono rfl)).tr ((rvf.sI _ 189 10 _).mono rfl)).tr ((rvf.sI _ 189 5 _).mono rfl)
  have hB5 := f5.B hB6
  have hT5 : TXR S5 b L M := by
    refine ⟨h940, hM, ?_, ?_, fun j hj => ⟨(hb j hj).1, ?_⟩⟩
    · rw [e5, rv_sI_k _ _ (by decide), rv_sI_k _ _ (by decide), rv_sI_k _ _ (by decide), rv_sI_eq]
    · rw [e5, rv_sI_k _ _ (by decide), rv_sI_k _ _ (by decide), rv_sI_eq]
    · rw [f5.row (a := 190) rfl rfl, f6.row (a := 190) rfl rfl]; exact (hb j hj).2
  have g5 : S5.2.1 189 5 = nI 0 := by rw [e5, rv_sI_eq]
  obtain ⟨R', e, f, k⟩ := m_go (n := n) hn hB5 hT5 g5 (Nat.zero_le L)
  have fall : rvf DBg S R' := ((f6.mono rfl).tr (f5.mono rfl)).tr (f.mono rfl)
  refine ⟨R', ?_, fall, hT5.f f rfl rfl rfl, k, fun j hj => ?_, fun j hj => ?_, ?_, ?_, ?_⟩
  · rw [fnX13_begin]
    repeat (first | (conv => (lhs; arg 1; simp (disch := first | assumption | omega) only [tk_gI, tk_gL, tk_gR, tk_pI, tk_pL, rv_aI, rv_aL, rv_aR, rv_uI, rv_uL, rv_uB, rv_uZ, pu_ckI, pu_ckL, pu_lnI, pu_lnL, tk_rI, tk_rL, Option.bind_some, Option.map_some, rv_lt, tk_ix, z0, rc_189 hB, e6, rc_189 hB6])); first | rw [Option.bind_some] | rw [bp_s] | rw [if_true] | rw [if_false] | rw [rv_lt_eq] | rw [if_pos (by omega)] | rw [if_neg (by omega)])
    have et : fnX13_take n S6 189 = some (nI L, rv_sI S6 189 2 (nI 0)) := by
      rw [fnX13_take]
      repeat (first | (conv => (lhs; arg 1; simp (disch := first | assumption | omega) only [tk_gI, tk_gL, tk_gR, tk_pI, tk_pL, rv_aI, rv_aL, rv_aR, rv_uI, rv_uL, rv_uB, rv_uZ, pu_ckI, pu_ckL, pu_lnI, pu_lnL, tk_rI, tk_rL, Option.bind_some, Option.map_some, rv_lt, tk_ix, z0, rc_189 hB6, g2])); first | rw [Option.bind_some] | rw [bp_s] | rw [if_true] | rw [if_false] | rw [rv_lt_eq] | rw [if_pos (by omega)] | rw [if_neg (by omega)])
    rw [et, bp_s]
    repeat (first | (conv => (lhs; arg 1; simp (disch := first | assumption | omega) only [tk_gI, tk_gL, tk_gR, tk_pI, tk_pL, rv_aI, rv_aL, rv_aR, rv_uI, rv_uL, rv_uB, rv_uZ, pu_ckI, pu_ckL, pu_lnI, pu_lnL, tk_rI, tk_rL, Option.bind_some, Option.map_some, rv_lt, tk_ix, z0, rc_189 hB6])); first | rw [Option.bind_some] | rw [bp_s] | rw [if_true] | rw [if_false] | rw [rv_lt_eq] | rw [if_pos (by omega)] | rw [if_neg (by omega)])
    rw [← e5, e]
    rfl
  · rw [f.row (a := 191) rfl rfl, f5.row (a := 191) rfl rfl]; exact hM6 j hj
  · rw [f.row (a := 191) rfl rfl, f5.row (a := 191) rfl rfl]; exact r6 j hj
  · rw [f.at (a := 189) (k := 22) rfl, f5.at (a := 189) (k := 22) rfl]; exact b6
  · rw [f.at (a := 189) (k := 2) rfl, e5, rv_sI_k _ _ (by decide), rv_sI_k _ _ (by decide), rv_sI_k _ _ (by decide), rv_sI_k _ _ (by decide), rv_sI_eq]
  · rw [f.at (a := 189) (k := 10) rfl, e5, rv_sI_k _ _ (by decide), rv_sI_eq]
/-- what plain() lays, as numbers -/
def plN (k : Nat) : Nat := if k = 3 then 3 else if k = 4 then 8 else if k = 5 then 1 else if 128 ≤ k ∧ k < 132 then 2 ^ (k - 128) else 0
theorem plN_pl {k : Nat} (hk : k < 420) : rv_pl k = nI (plN k) := by
  unfold rv_pl plN
  by_cases c : k < 128
  · rw [if_pos c]
    by_cases c3 : k = 3
    · rw [if_pos c3, if_pos c3]; rfl
    · rw [if_neg c3, if_neg c3]
      by_cases c4 : k = 4
      · rw [if_pos c4, if_pos c4]; rfl
      · rw [if_neg c4, if_neg c4]
        by_cases c5 : k = 5
        · rw [if_pos c5, if_pos c5]; rfl
        · rw [if_neg c5, if_neg c5, if_neg (by omega)]; rfl
  · rw [if_neg c, if_neg (show ¬ k = 3 by omega), if_neg (show ¬ k = 4 by omega), if_neg (show ¬ k = 5 by omega)]
    by_cases c2 : k < 132
    · rw [if_pos c2, if_pos ⟨by omega, c2⟩]
      exact z_shl (by omega)
    · rw [if_neg c2, if_neg (fun z => c2 z.2)]; rfl
theorem plN_okm : okm plN := by
  refine ⟨⟨by decide, fun w hw => absurd hw (Nat.not_lt_zero w), fun w hw => absurd hw (Nat.not_lt_zero w), fun a b ha => absurd ha (Nat.not_lt_zero a), ?_, ?_⟩, ⟨by decide, by decide, fun c hc => absurd hc (Nat.not_lt_zero c)⟩, by decide, by decide, by decide, by decide, by decide, by decide, fun k hk => absurd hk (Nat.not_lt_zero k)⟩
  · decide
  · have h : ∀ a, a < 4 → ∀ b, b < 4 → nr plN a b = nr plN b a := by decide +kernel
    exact fun a b ha hb => h a ha b hb
theorem plN_okv : okv plN wd := by
  refine ⟨plN_okm, by decide, by decide, fun k h1 h2 => ?_, fun w hw => absurd hw (Nat.not_lt_zero w)⟩
  have h1 : 8 ≤ k := h1
  unfold plN
  rw [if_neg (by omega), if_neg (by omega), if_neg (by omega), if_neg (by omega)]
theorem k_emptyD (hn : 1000 ≤ n) (hB : rv_B C) : ∃ C', fnX9_empty n C 87 = some C' ∧ rvf [87, 88, 93, 94, 95, 99] C C' ∧ CR C' 87 plN ∧ C'.2.1 99 4 = nI 0 ∧ C'.2.1 99 5 = nI 0 := by
  have hv : vb 87 := Or.inr (Or.inl rfl)
  have hVS := VS_of hB hv
  have hSS := SS_of hB hv
  have c88 : rv_ck C 0 88 = some () := rc_88 hB
  have r7 : C.2.2.2 88 7 = some 93 := rf_of hB (by decide)
  have l93 : rv_ln C 0 93 = some 4 := hB.ln rfl rfl
  obtain ⟨C7, e7⟩ : ∃ C7, C7 = rv_sI (rv_sI (rv_sI (rv_sI (rv_sI (rv_sI (rv_sI C 88 0 (nI 0)) 88 1 (nI 0)) 88 2 (nI 0)) 93 0 (nI (2 ^ 0))) 93 1 (nI (2 ^ 1))) 93 2 (nI (2 ^ 2))) 93 3 (nI (2 ^ 3)) := ⟨_, rfl⟩
  have f7 : rvf [88, 93] C C7 := by
    rw [e7]
    exact (((((((rvf.sIr C (a := 88) _ _ rfl).mono (D' := [88, 93]) rfl).w rfl rfl).w rfl rfl).w rfl rfl).w rfl rfl).w rfl rfl).w rfl rfl
  have hB7 := f7.B hB
  have r0 : FR0 C7 88 plN := by
    rw [e7]
    refine ⟨?_, ?_, ?_, fun w hw => absurd hw (Nat.not_lt_zero w), fun w hw => absurd hw (Nat.not_lt_zero w), fun w hw => absurd hw (Nat.not_lt_zero w), fun j hj => ?_⟩
    · rw [rv_sI_a _ _ _ (by decide), rv_sI_a _ _ _ (by decide), rv_sI_a _ _ _ (by decide), rv_sI_a _ _ _ (by decide), rv_sI_k _ _ (by decide), rv_sI_k _ _ (by decide), rv_sI_eq]; rfl
    · rw [rv_sI_a _ _ _ (by decide), rv_sI_a _ _ _ (by decide), rv_sI_a _ _ _ (by decide), rv_sI_a _ _ _ (by decide), rv_sI_k _ _ (by decide), rv_sI_eq]; rfl
    · rw [rv_sI_a _ _ _ (by decide), rv_sI_a _ _ _ (by decide), rv_sI_a _ _ _ (by decide), rv_sI_a _ _ _ (by decide), rv_sI_eq]; rfl
    · have : j = 0 ∨ j = 1 ∨ j = 2 ∨ j = 3 := by omega
      rcases this with rfl | rfl | rfl | rfl
      · rw [rv_sI_k _ _ (by decide), rv_sI_k _ _ (by decide), rv_sI_k _ _ (by decide), rv_sI_eq]; rfl
      · rw [rv_sI_k _ _ (by decide), rv_sI_k _ _ (by decide), rv_sI_eq]; rfl
      · rw [rv_sI_k _ _ (by decide), rv_sI_eq]; rfl
      · rw [rv_sI_eq]; rfl
  obtain ⟨C8, e8, f8, F8⟩ := k_refresh (n := n) (by omega) hB7 hv.f r0 plN_okm.1
  have e8 : fnX1_refresh n C7 88 = some C8 := e8
  have f8 : rvf [94] C7 C8 := f8
  have st : ∀ q j (Z : rvS), j < 4 → rv_ck Z 0 88 = some () → Z.2.2.2 88 7 = some 93 → rv_ln Z 0 93 = some 4 → cX1_empty_17 n (q + 1) Z 88 (nI j) = cX1_empty_17 n q (rv_sI Z 93 j (nI (2 ^ j))) 88 (nI (j + 1)) := fun q j Z hj k1 k2 k3 => by
    rw [cX1_empty_17, if_neg (by rw [z4, n_le (by omega) (by omega)]; omega)]
    have sj : (1 : Int32) <<< (nI j &&& 31) = nI (2 ^ j) := z_shl (by omega)
    repeat (first | (conv => (lhs; arg 1; simp (disch := first | assumption | omega) only [tk_gI, tk_gL, tk_gR, tk_pI, tk_pL, rv_aI, rv_aL, rv_aR, rv_uI, rv_uL, rv_uB, rv_uZ, pu_ckI, pu_ckL, pu_lnI, pu_lnL, tk_rI, tk_rL, Option.bind_some, Option.map_some, rv_lt, tk_ix, sj, k1, k2, k3])); first | rw [Option.bind_some] | rw [bp_s] | rw [if_true] | rw [if_false] | rw [rv_lt_eq] | rw [if_pos (by omega)] | rw [if_neg (by omega)])
    rw [z1, nI_add]
  have eE : fnX1_empty n C 88 = some C8 := by
    rw [fnX1_empty]
    repeat (first | (conv => (lhs; arg 1; simp (disch := first | assumption | omega) only [tk_gI, tk_gL, tk_gR, tk_pI, tk_pL, rv_aI, rv_aL, rv_aR, rv_uI, rv_uL, rv_uB, rv_uZ, pu_ckI, pu_ckL, pu_lnI, pu_lnL, tk_rI, tk_rL, Option.bind_some, Option.map_some, rv_lt, tk_ix, z0, c88])); first | rw [Option.bind_some] | rw [bp_s] | rw [if_true] | rw [if_false] | rw [rv_lt_eq] | rw [if_pos (by omega)] | rw [if_neg (by omega)])
    rw [z0]
    refine un 5 (F := fun z => cX1_empty_17 n z (rv_sI (rv_sI (rv_sI C 88 0 (nI 0)) 88 1 (nI 0)) 88 2 (nI 0)) 88 (nI 0)) (fun q => ?_) (by omega)
    show cX1_empty_17 n (q + 4 + 1) _ 88 (nI 0) = _
    refine Eq.trans (st (q + 4) 0 _ (by decide) ?_ ?_ ?_) ?_
    · exact c88
    · exact r7
    · exact l93
    refine Eq.trans (st (q + 3) 1 _ (by decide) ?_ ?_ ?_) ?_
    · exact c88
    · exact r7
    · exact l93
    refine Eq.trans (st (q + 2) 2 _ (by decide) ?_ ?_ ?_) ?_
    · exact c88
    · exact r7
    · exact l93
    refine Eq.trans (st (q + 1) 3 _ (by decide) ?_ ?_ ?_) ?_
    · exact c88
    · exact r7
    · exact l93
    rw [← e7, cX1_empty_17, if_pos (by rw [z4, n_le (by omega) (by omega)]; omega), cX1_empty_37, rc_88 hB7, Option.bind_some, e8]
    rfl
  have hB8 := f8.B hB7
  obtain ⟨C9, e9⟩ : ∃ C9, C9 = rv_sI (rv_sI C8 95 0 (nI 0)) 95 1 (nI 3) := ⟨_, rfl⟩
  obtain ⟨C10, e10⟩ : ∃ C10, C10 = rv_sI (rv_sI C9 99 4 (nI 0)) 99 5 (nI 0) := ⟨_, rfl⟩
  obtain ⟨C11, e11⟩ : ∃ C11, C11 = rv_sI (rv_sI (rv_sI (rv_sI C10 87 6 (nI 0)) 87 7 (nI 0)) 87 8 (nI 8)) 87 9 (nI 1) := ⟨_, rfl⟩
  have f9 : rvf [95] C8 C9 := by rw [e9]; exact (rvf.sIr _ _ _ rfl).tr (rvf.sIr _ _ _ rfl)
  have f10 : rvf [99] C9 C10 := by rw [e10]; exact (rvf.sIr _ _ _ rfl).tr (rvf.sIr _ _ _ rfl)
  have f11 : rvf [87] C10 C11 := by rw [e11]; exact (((rvf.sIr _ _ _ rfl).tr (rvf.sIr _ _ _ rfl)).tr (rvf.sIr _ _ _ rfl)).tr (rvf.sIr _ _ _ rfl)
  have hB9 := f9.B hB8
  have hB10 := f10.B hB9
  have fall : rvf [87, 88, 93, 94, 95, 99] C C11 := ((((f7.mono rfl).tr (f8.mono rfl)).tr (f9.mono rfl)).tr (f10.mono rfl)).tr (f11.mono rfl)
  refine ⟨C11, ?_, fall, ⟨?_, ?_, ?_⟩, ?_, ?_⟩
  · have hVS8 := VS_of hB8 hv
    have hVS9 := VS_of hB9 hv
    have hVS10 := VS_of hB10 hv
    have c95 : rv_ck C8 5 95 = some () := rc_95 hB8
    have hSS9 := SS_of hB9 hv
    have c99 : rv_ck C9 6 99 = some () := hSS9.1
    have eP : fnX6_empty n C8 95 = some C9 := by
      rw [fnX6_empty]
      repeat (first | (conv => (lhs; arg 1; simp (disch := first | assumption | omega) only [tk_gI, tk_gL, tk_gR, tk_pI, tk_pL, rv_aI, rv_aL, rv_aR, rv_uI, rv_uL, rv_uB, rv_uZ, pu_ckI, pu_ckL, pu_lnI, pu_lnL, tk_rI, tk_rL, Option.bind_some, Option.map_some, rv_lt, tk_ix, z0, z3, c95])); first | rw [Option.bind_some] | rw [bp_s] | rw [if_true] | rw [if_false] | rw [rv_lt_eq] | rw [if_pos (by omega)] | rw [if_neg (by omega)])
      rw [e9]
    have eS : fnX7_forget n C9 99 = some C10 := by
      rw [fnX7_forget]
      repeat (first | (conv => (lhs; arg 1; simp (disch := first | assumption | omega) only [tk_gI, tk_gL, tk_gR, tk_pI, tk_pL, rv_aI, rv_aL, rv_aR, rv_uI, rv_uL, rv_uB, rv_uZ, pu_ckI, pu_ckL, pu_lnI, pu_lnL, tk_rI, tk_rL, Option.bind_some, Option.map_some, rv_lt, tk_ix, z0, c99])); first | rw [Option.bind_some] | rw [bp_s] | rw [if_true] | rw [if_false] | rw [rv_lt_eq] | rw [if_pos (by omega)] | rw [if_neg (by omega)])
      rw [e10]
    rw [fnX9_empty]
    repeat (first | (conv => (lhs; arg 1; simp (disch := first | assumption | omega) only [tk_gI, tk_gL, tk_gR, tk_pI, tk_pL, rv_aI, rv_aL, rv_aR, rv_uI, rv_uL, rv_uB, rv_uZ, pu_ckI, pu_ckL, pu_lnI, pu_lnL, tk_rI, tk_rL, Option.bind_some, Option.map_some, rv_lt, tk_ix, hVS, c88])); first | rw [Option.bind_some] | rw [bp_s] | rw [if_true] | rw [if_false] | rw [rv_lt_eq] | rw [if_pos (by omega)] | rw [if_neg (by omega)])
    rw [show (87 + 1 : Nat) = 88 from rfl]
    try rw [c88, Option.bind_some]
    rw [eE, Option.bind_some]
    repeat (first | (conv => (lhs; arg 1; simp (disch := first | assumption | omega) only [tk_gI, tk_gL, tk_gR, tk_pI, tk_pL, rv_aI, rv_aL, rv_aR, rv_uI, rv_uL, rv_uB, rv_uZ, pu_ckI, pu_ckL, pu_lnI, pu_lnL, tk_rI, tk_rL, Option.bind_some, Option.map_some, rv_lt, tk_ix, hVS8])); first | rw [Option.bind_some] | rw [bp_s] | rw [if_true] | rw [if_false] | rw [rv_lt_eq] | rw [if_pos (by omega)] | rw [if_neg (by omega)])
    rw [show (87 + 8 : Nat) = 95 from rfl]
    try rw [c95, Option.bind_some]
    rw [eP, Option.bind_some]
    repeat (first | (conv => (lhs; arg 1; simp (disch := first | assumption | omega) only [tk_gI, tk_gL, tk_gR, tk_pI, tk_pL, rv_aI, rv_aL, rv_aR, rv_uI, rv_uL, rv_uB, rv_uZ, pu_ckI, pu_ckL, pu_lnI, pu_lnL, tk_rI, tk_rL, Option.bind_some, Option.map_some, rv_lt, tk_ix, hVS9])); first | rw [Option.bind_some] | rw [bp_s] | rw [if_true] | rw [if_false] | rw [rv_lt_eq] | rw [if_pos (by omega)] | rw [if_neg (by omega)])
    rw [show (87 + 12 : Nat) = 99 from rfl]
    try rw [c99, Option.bind_some]
    rw [eS, Option.bind_some]
    repeat (first | (conv => (lhs; arg 1; simp (disch := first | assumption | omega) only [tk_gI, tk_gL, tk_gR, tk_pI, tk_pL, rv_aI, rv_aL, rv_aR, rv_uI, rv_uL, rv_uB, rv_uZ, pu_ckI, pu_ckL, pu_lnI, pu_lnL, tk_rI, tk_rL, Option.bind_some, Option.map_some, rv_lt, tk_ix, z0, z1, z8, hVS10])); first | rw [Option.bind_some] | rw [bp_s] | rw [if_true] | rw [if_false] | rw [rv_lt_eq] | rw [if_pos (by omega)] | rw [if_neg (by omega)])
    rw [e11]
  · exact ((F8.f' f9 (by decide)).f' f10 (by decide)).f' f11 (by decide)
  · refine ⟨?_, ?_, fun c hc => absurd hc (Nat.not_lt_zero c), fun c hc => absurd hc (Nat.not_lt_zero c), fun c hc => absurd hc (Nat.not_lt_zero c)⟩
    · rw [f11.row (a := 95) rfl rfl, f10.row (a := 95) rfl rfl, e9, rv_sI_k _ _ (by decide), rv_sI_eq]; rfl
    · rw [f11.row (a := 95) rfl rfl, f10.row (a := 95) rfl rfl, e9, rv_sI_eq]; rfl
  · rw [e11]
    refine ⟨?_, ?_, ?_, ?_, fun k hk => absurd hk (Nat.not_lt_zero k), fun k hk => absurd hk (Nat.not_lt_zero k), fun k hk => absurd hk (Nat.not_lt_zero k)⟩
    · rw [rv_sI_k _ _ (by decide), rv_sI_k _ _ (by decide), rv_sI_k _ _ (by decide), rv_sI_eq]; rfl
    · rw [rv_sI_k _ _ (by decide), rv_sI_k _ _ (by decide), rv_sI_eq]; rfl
    · rw [rv_sI_k _ _ (by decide), rv_sI_eq]; rfl
    · rw [rv_sI_eq]; rfl
  · rw [f11.row (a := 99) rfl rfl, e10, rv_sI_k _ _ (by decide), rv_sI_eq]
  · rw [f11.row (a := 99) rfl rfl, e10, rv_sI_eq]
end
