/-! VALLEY: the whole call -/
section
variable {n : Nat} {S C R : rvS} {b : Nat → Nat} {L M : Nat} {m : Nat → Nat} {wd : Nat → List Nat}
/-- as rvf, but for the shape -/
def rvq (D : List Nat) (S S' : rvS) : Prop := rvr D S S' ∧ ∀ a k, lc a k ∉ D → S'.2.1 a k = S.2.1 a k ∧ S'.2.2.1 a k = S.2.2.1 a k
theorem rvf.q {D : List Nat} {S S' : rvS} (h : rvf D S S') : rvq D S S' := h.2
theorem rvq.tr {D : List Nat} {S S1 S2 : rvS} (h : rvq D S S1) (k : rvq D S1 S2) : rvq D S S2 := ⟨h.1.tr k.1, fun a j ha => ⟨(k.2 a j ha).1.trans (h.2 a j ha).1, (k.2 a j ha).2.trans (h.2 a j ha).2⟩⟩
theorem rvq.mono {D D' : List Nat} {S S' : rvS} (h : rvq D S S') (hd : ∀ d, d ∈ D → d ∈ D') : rvq D' S S' := ⟨⟨h.1.1, fun a k ha => h.1.2 a k (fun z => ha (hd _ z))⟩, fun a k ha => h.2 a k (fun z => ha (hd _ z))⟩
theorem rvq.f {D : List Nat} {S S' : rvS} (h : rvq D S S') : rvf D S (S.1, S'.2) := ⟨rfl, h.1, h.2⟩
theorem rf_lt : ∀ q ∈ rv_rf0, q.1 < 218 := by decide +kernel
theorem sh0_len : rv_sh0.length = 154 := by decide +kernel
theorem newVT (hB : rv_B C) (hlen : C.1.length < 1900) : ∃ C2 a, a = 64 + C.1.length ∧ rv_B C2 ∧ isVT C2 a ∧ C2.1 = C.1 ++ [(9, 8)] ∧ (∀ x, x ≠ a → C2.2.1 x = C.2.1 x ∧ C2.2.2.1 x = C.2.2.1 x ∧ C2.2.2.2 x = C.2.2.2 x) ∧ (∀ k, C2.2.1 a k = 0) ∧ fnX10_init n (rv_new C (9, rv_N 9)) a 65 87 = some C2 := by
  obtain ⟨⟨ex, e1⟩, h2⟩ := id hB
  have hl : 154 ≤ C.1.length := by rw [e1, List.length_append, sh0_len]; omega
  obtain ⟨a, ea⟩ : ∃ a, a = 64 + C.1.length := ⟨_, rfl⟩
  have g : (C.1 ++ [(9, 8)])[a - 64]? = some (9, 8) := by
    rw [show a - 64 = C.1.length by omega, List.getElem?_append_right (Nat.le_refl _), Nat.sub_self]
    rfl
  have isb : rv_isB (rv_new C (9, rv_N 9)) a (9, rv_N 9) = true := rv_isB_iff.mpr ⟨by omega, g⟩
  obtain ⟨C2, e2⟩ : ∃ C2, C2 = rv_sR (rv_sR (rv_new C (9, rv_N 9)) a 0 (some 65)) a 1 (some 87) := ⟨_, rfl⟩
  have rows : ∀ x, x ≠ a → C2.2.1 x = C.2.1 x ∧ C2.2.2.1 x = C.2.2.1 x ∧ C2.2.2.2 x = C.2.2.2 x := fun x hx => by
    rw [e2]
    refine ⟨funext fun k => if_neg (by omega), funext fun k => if_neg (by omega), funext fun k => ?_⟩
    show (if x = a ∧ k = 1 then _ else if x = a ∧ k = 0 then _ else if x = 64 + C.1.length then _ else C.2.2.2 x k) = _
    rw [if_neg (fun z => hx z.1), if_neg (fun z => hx z.1), if_neg (by omega)]
  have sh : C2.1 = C.1 ++ [(9, 8)] := by rw [e2]; rfl
  have len2 : (rv_new C (9, rv_N 9)).1.length = C.1.length + 1 := by
    show (C.1 ++ [(9, rv_N 9)]).length = _
    rw [List.length_append]; rfl
  refine ⟨C2, a, ea, ⟨⟨ex ++ [(9, 8)], by rw [sh, e1, List.append_assoc]⟩, fun q hq => ?_⟩, ⟨by omega, by omega, by rw [sh]; exact g, ?_, ?_⟩, sh, rows, fun k => ?_, ?_⟩
  · have := rf_lt q hq
    rw [(rows q.1 (by omega)).2.2]; exact h2 q hq
  · rw [e2]
    show (if a = a ∧ 0 = 1 then _ else if a = a ∧ 0 = 0 then some 65 else _) = some 65
    rw [if_neg (fun z => absurd z.2 (by decide)), if_pos ⟨rfl, rfl⟩]
  · rw [e2]
    show (if a = a ∧ 1 = 1 then some 87 else _) = some 87
    rw [if_pos ⟨rfl, rfl⟩]
  · rw [e2]
    exact if_pos ea
  · rw [fnX10_init]
    have p1 : rv_pR (rv_new C (9, rv_N 9)) 9 a 0 65 = some (rv_sR (rv_new C (9, rv_N 9)) a 0 (some 65)) := by
      unfold rv_pR
      rw [if_pos isb, if_pos (by omega)]
    have p2 : rv_pR (rv_sR (rv_new C (9, rv_N 9)) a 0 (some 65)) 9 a 1 87 = some (rv_sR (rv_sR (rv_new C (9, rv_N 9)) a 0 (some 65)) a 1 (some 87)) := by
      unfold rv_pR
      rw [if_pos (show rv_isB (rv_sR (rv_new C (9, rv_N 9)) a 0 (some 65)) a (9, rv_N 9) = true from isb), if_pos (show 87 < 64 + (rv_sR (rv_new C (9, rv_N 9)) a 0 (some 65)).1.length from (show 87 < 64 + (rv_new C (9, rv_N 9)).1.length by omega))]
    rw [p1, Option.bind_some, p2, Option.bind_some, e2]
theorem TXC.c {C2 : rvS} (h : TXC C b L M) (e : ∀ x, x = 65 ∨ x = 66 → C2.2.1 x = C.2.1 x) : TXC C2 b L M := by
  obtain ⟨h1, h2, h3, h4, h5⟩ := h
  exact ⟨h1, h2, by rw [e 65 (Or.inl rfl)]; exact h3, by rw [e 65 (Or.inl rfl)]; exact h4, fun j hj => ⟨(h5 j hj).1, by rw [e 66 (Or.inr rfl)]; exact (h5 j hj).2⟩⟩
theorem KC.c {C2 : rvS} {T : Tk} (h : KC C T) (e : C2.2.1 65 = C.2.1 65) (e2 : C2.2.2.1 65 = C.2.2.1 65) (e3 : C2.2.2.2 65 8 = C.2.2.2 65 8) : KC C2 T := by
  obtain ⟨k1, k2, k3, k4, k5⟩ := h
  exact ⟨by rw [e]; exact k1, by rw [e]; exact k2, by rw [e]; exact k3, fun z => by rw [e]; exact k4 z, fun z => by rw [e2, e3]; exact k5 z⟩
theorem KC.f {D : List Nat} {C2 : rvS} {T : Tk} (h : KC C T) (f : rvf D C C2) (hd : [65003, 65004, 65005, 65006, 65007, 65008].all (fun a => !D.elem a) = true) : KC C2 T := by
  have g : ∀ a, a ∈ [65003, 65004, 65005, 65006, 65007, 65008] → D.elem a = false := fun a ha => by
    have := List.all_eq_true.mp hd a ha
    simpa using this
  obtain ⟨k1, k2, k3, k4, k5⟩ := h
  have e8 : C2.2.2.2 65 8 = C.2.2.2 65 8 := f.2.1.2 65 8 (fun z => by
    have := g 65008 (by decide)
    have z : (65008 : Nat) ∈ D := z
    rw [List.elem_iff.mpr z] at this
    cases this)
  refine ⟨?_, ?_, ?_, fun z => ?_, fun z => ?_⟩
  · rw [f.at (a := 65) (k := 3) (g _ (by decide))]; exact k1
  · rw [f.at (a := 65) (k := 5) (g _ (by decide))]; exact k2
  · rw [f.at (a := 65) (k := 4) (g _ (by decide))]; exact k3
  · rw [f.at (a := 65) (k := 6) (g _ (by decide))]; exact k4 z
  · rw [f.atL (a := 65) (k := 7) (g _ (by decide)), e8]; exact k5 z
/-- the reference stands at its first line -/
theorem m_vbegin (hn : 1000 ≤ n) (hB : rv_B S) (hL : MRL S m) (h940 : L ≤ 940) (h2 : S.2.1 189 2 = nI L) (hb : ∀ j, j < L → b j < 256 ∧ S.2.1 190 j = nI (b j)) : ∃ R', fnX13_valley n S 189 = cX13_valley_21 n n R' 189 (nI 0) ∧ rvf (DBg ++ [189023, 192]) S R' ∧ TXR R' b L 900 ∧ KR R' (tq_nx b L 900 0) ∧ (∀ k, k < 420 → R'.2.1 192 k = nI (plN k)) ∧ R'.2.1 189 23 = nI 0 ∧ MR R' m ∧ R42 S R' ∧ ¬ R'.2.1 189 22 = 0 ∧ R'.2.1 189 2 = nI 0 ∧ R'.2.1 189 10 = nI 0 := by
  obtain ⟨R1, e1, f1, t1, k1, m1, q1, b1, z2', z10'⟩ := m_begin (n := n) hn hB hL h940 h2 hb (M := 900) (by decide)
  have hB1 := f1.B hB
  obtain ⟨R2, e2, hB2, f2, g1, g2⟩ := rv_plain (n := n) (a := 192) (m := 420) (by omega) rfl rfl (by decide) (by decide) hB1
  have f2' := rvf_of_fr f2 rfl
  obtain ⟨R3, e3⟩ : ∃ R3, R3 = rv_sI R2 189 23 (nI 0) := ⟨_, rfl⟩
  have f3 : rvf [189023] R2 R3 := by rw [e3]; exact rvf.sI R2 189 23 _
  have fz : rvf [189023, 192] R1 R3 := (f2'.mono rfl).tr (f3.mono rfl)
  refine ⟨R3, ?_, (f1.mono rfl).tr (fz.mono rfl), t1.f fz rfl rfl rfl, ?_, fun k hk => ?_, by rw [e3, rv_sI_eq], fun j hj => ?_, fun j hj => ?_, ?_, ?_, ?_⟩
  · have e1 : fnX13_begin n S 189 (900 : Int32) = some R1 := e1
    rw [fnX13_valley]
    repeat (first | (conv => (lhs; arg 1; simp (disch := first | assumption | omega) only [tk_gI, tk_gL, tk_gR, tk_pI, tk_pL, rv_aI, rv_aL, rv_aR, rv_uI, rv_uL, rv_uB, rv_uZ, pu_ckI, pu_ckL, pu_lnI, pu_lnL, tk_rI, tk_rL, Option.bind_some, Option.map_some, rv_lt, tk_ix, z0, rc_189 hB, e1, rc_189 hB1, rf_of hB1 (show (189, 15, 192) ∈ rv_rf0 by decide), e2, rc_189 hB2])); first | rw [Option.bind_some] | rw [bp_s] | rw [if_true] | rw [if_false] | rw [rv_lt_eq] | rw [if_pos (by omega)] | rw [if_neg (by omega)])
    rw [← e3, z0]
  · obtain ⟨p1, p2, p3, p4, p5, p6⟩ := k1
    refine ⟨?_, ?_, ?_, fun z z' => ?_, fun z => ?_, fun z => ?_⟩
    · rw [fz.at (a := 189) (k := 5) rfl]; exact p1
    · rw [fz.at (a := 189) (k := 6) rfl]; exact p2
    · rw [fz.at (a := 189) (k := 7) rfl]; exact p3
    · rw [fz.at (a := 189) (k := 9) rfl]; exact p4 z z'
    · rw [fz.at (a := 189) (k := 8) rfl]; exact p5 z
    · rw [fz.atL (a := 189) (k := 12) rfl]; exact p6 z
  · rw [f3.row (a := 192) rfl rfl, g1 k hk, plN_pl hk]
  · rw [fz.row (a := 191) rfl rfl]; exact m1 j hj
  · rw [fz.row (a := 191) rfl rfl]; exact q1 j hj
  · rw [fz.at (a := 189) (k := 22) rfl]; exact b1
  · rw [fz.at (a := 189) (k := 2) rfl]; exact z2'
  · rw [fz.at (a := 189) (k := 10) rfl]; exact z10'
/-- the reference takes what it read -/
theorem m_vend (hn : 1000 ≤ n) (hB : rv_B R) (hr : ∀ k, k < 420 → R.2.1 192 k = nI (m k)) (x : Int32) : ∃ R', cX13_valley_48 n R 189 x = some (x, R') ∧ rvf [191, 192, 195] R R' ∧ MR R' (u1 m 6 (m 0)) ∧ R'.2.1 191 420 = nI 0 ∧ ∀ w, w < 16 → R'.2.2.1 195 w = R.2.2.1 196 w := by
  obtain ⟨R1, e1⟩ : ∃ R1, R1 = rv_sI R 192 6 (nI (m 0)) := ⟨_, rfl⟩
  have f1 : rvf [192] R R1 := by rw [e1]; exact rvf.sIr R _ _ rfl
  have hB1 := f1.B hB
  have r14 : ∀ {Z : rvS}, rv_B Z → Z.2.2.2 189 14 = some 191 := fun h => rf_of h (by decide)
  have r15 : ∀ {Z : rvS}, rv_B Z → Z.2.2.2 189 15 = some 192 := fun h => rf_of h (by decide)
  have r18 : ∀ {Z : rvS}, rv_B Z → Z.2.2.2 189 18 = some 195 := fun h => rf_of h (by decide)
  have r19 : ∀ {Z : rvS}, rv_B Z → Z.2.2.2 189 19 = some 196 := fun h => rf_of h (by decide)
  have h1 : ∀ k, k < 420 → R1.2.1 192 k = nI (u1 m 6 (m 0) k) := by rw [e1]; exact rd_u hr 6 (m 0)
  have part2 : ∀ Z, rvf [191] R1 Z → (∀ k, k < 420 → Z.2.1 191 k = nI (u1 m 6 (m 0) k)) → Z.2.1 191 420 = nI 0 → ∃ R', cX13_valley_99 n n Z 189 x (nI 0) = some (x, R') ∧ rvf [191, 192, 195] R R' ∧ MR R' (u1 m 6 (m 0)) ∧ R'.2.1 191 420 = nI 0 ∧ ∀ w, w < 16 → R'.2.2.1 195 w = R.2.2.1 196 w := by
    intro Z fZ hZ hz4
    have hBZ := fZ.B hB1
    refine lp (F := fun q (y : rvS × Int32) => cX13_valley_99 n q y.1 189 x y.2) (fun i y => y.2 = nI i ∧ rvf [195] Z y.1 ∧ ∀ w, w < i → y.1.2.2.1 195 w = R.2.2.1 196 w) (fun r => ∃ R', r = some (x, R') ∧ rvf [191, 192, 195] R R' ∧ MR R' (u1 m 6 (m 0)) ∧ R'.2.1 191 420 = nI 0 ∧ ∀ w, w < 16 → R'.2.2.1 195 w = R.2.2.1 196 w) 16 (fun i y q hi hy => Or.inr ?_) (fun y q hy => ?_) (i := 0) (x := (Z, nI 0)) (q := n) (Nat.zero_le _) ⟨rfl, rvf.rf _ _, fun w hw => absurd hw (Nat.not_lt_zero w)⟩ (by omega)
    · obtain ⟨Y, y2⟩ := y
      obtain ⟨rfl, fY, hY⟩ := hy
      have fY : rvf [195] Z Y := fY
      have hBY := fY.B hBZ
      have s6 : Y.2.2.1 196 i = R.2.2.1 196 i := (fY.rowL rfl rfl i).trans ((fZ.rowL rfl rfl i).trans (f1.rowL rfl rfl i))
      refine ⟨(rv_sL Y 195 i (R.2.2.1 196 i), nI (i + 1)), ?_, rfl, fY.tr (rvf.sLr Y _ _ rfl), fun w hw => ?_⟩
      · show cX13_valley_99 n (q + 1) Y 189 x (nI i) = _
        rw [cX13_valley_99, if_neg (by rw [z16, n_le (by omega) (by omega)]; omega)]
        repeat (first | (conv => (lhs; arg 1; simp (disch := first | assumption | omega) only [tk_gI, tk_gL, tk_gR, tk_pI, tk_pL, rv_aI, rv_aL, rv_aR, rv_uI, rv_uL, rv_uB, rv_uZ, pu_ckI, pu_ckL, pu_lnI, pu_lnL, tk_rI, tk_rL, Option.bind_some, Option.map_some, rv_lt, tk_ix, rc_189 hBY, r18 hBY, r19 hBY, rn_195 hBY, rn_196 hBY, s6])); first | rw [Option.bind_some] | rw [bp_s] | rw [if_true] | rw [if_false] | rw [rv_lt_eq] | rw [if_pos (by omega)] | rw [if_neg (by omega)])
        rw [z1, nI_add]
      · by_cases cw : w = i
        · rw [cw]; exact rv_sL_eq _ _ _ _
        · show (rv_sL Y 195 i (R.2.2.1 196 i)).2.2.1 195 w = _
          rw [rv_sL_k _ _ cw]; exact hY w (by omega)
    · obtain ⟨Y, y2⟩ := y
      obtain ⟨rfl, fY, hY⟩ := hy
      have fY : rvf [195] Z Y := fY
      refine ⟨Y, ?_, ((f1.mono rfl).tr (fZ.mono rfl)).tr (fY.mono rfl), fun k hk => ?_, ?_, hY⟩
      · show cX13_valley_99 n (q + 1) Y 189 x (nI 16) = _
        rw [cX13_valley_99, if_pos (by rw [z16, n_le (by omega) (by omega)]; omega)]
      · rw [fY.row (a := 191) rfl rfl]; exact hZ k hk
      · rw [fY.row (a := 191) rfl rfl]; exact hz4
  have top : ∀ X, cX13_valley_63 n n R1 189 x (nI 0) = X → cX13_valley_48 n R 189 x = X := fun X hX => by
    have w0 := hr 0 (by decide)
    rw [cX13_valley_48]
    repeat (first | (conv => (lhs; arg 1; simp (disch := first | assumption | omega) only [tk_gI, tk_gL, tk_gR, tk_pI, tk_pL, rv_aI, rv_aL, rv_aR, rv_uI, rv_uL, rv_uB, rv_uZ, pu_ckI, pu_ckL, pu_lnI, pu_lnL, tk_rI, tk_rL, Option.bind_some, Option.map_some, rv_lt, tk_ix, z0, z6, rc_189 hB, r15 hB, rn_192 hB, w0])); first | rw [Option.bind_some] | rw [bp_s] | rw [if_true] | rw [if_false] | rw [rv_lt_eq] | rw [if_pos (by omega)] | rw [if_neg (by omega)])
    rw [← e1, z0]
    exact hX
  suffices hs : ∃ R', cX13_valley_63 n n R1 189 x (nI 0) = some (x, R') ∧ rvf [191, 192, 195] R R' ∧ MR R' (u1 m 6 (m 0)) ∧ R'.2.1 191 420 = nI 0 ∧ ∀ w, w < 16 → R'.2.2.1 195 w = R.2.2.1 196 w by
    obtain ⟨R', e, g⟩ := hs
    exact ⟨R', top _ e, g⟩
  refine lp (F := fun q (y : rvS × Int32) => cX13_valley_63 n q y.1 189 x y.2) (fun i y => y.2 = nI i ∧ rvf [191] R1 y.1 ∧ ∀ k, k < i → y.1.2.1 191 k = nI (u1 m 6 (m 0) k)) (fun r => ∃ R', r = some (x, R') ∧ rvf [191, 192, 195] R R' ∧ MR R' (u1 m 6 (m 0)) ∧ R'.2.1 191 420 = nI 0 ∧ ∀ w, w < 16 → R'.2.2.1 195 w = R.2.2.1 196 w) 420 (fun i y q hi hy => Or.inr ?_) (fun y q hy => ?_) (i := 0) (x := (R1, nI 0)) (q := n) (Nat.zero_le _) ⟨rfl, rvf.rf _ _, fun w hw => absurd hw (Nat.not_lt_zero w)⟩ (by omega)
  · obtain ⟨Y, y2⟩ := y
    obtain ⟨rfl, fY, hY⟩ := hy
    have fY : rvf [191] R1 Y := fY
    have hBY := fY.B hB1
    have s2 : Y.2.1 192 i = nI (u1 m 6 (m 0) i) := (fY.row rfl rfl i).trans (h1 i hi)
    refine ⟨(rv_sI Y 191 i (nI (u1 m 6 (m 0) i)), nI (i + 1)), ?_, rfl, fY.tr (rvf.sIr Y _ _ rfl), fun k hk => ?_⟩
    · show cX13_valley_63 n (q + 1) Y 189 x (nI i) = _
      rw [cX13_valley_63, if_neg (by rw [z420, n_le (by omega) (by omega)]; omega)]
      repeat (first | (conv => (lhs; arg 1; simp (disch := first | assumption | omega) only [tk_gI, tk_gL, tk_gR, tk_pI, tk_pL, rv_aI, rv_aL, rv_aR, rv_uI, rv_uL, rv_uB, rv_uZ, pu_ckI, pu_ckL, pu_lnI, pu_lnL, tk_rI, tk_rL, Option.bind_some, Option.map_some, rv_lt, tk_ix, rc_189 hBY, r14 hBY, r15 hBY, rn_191 hBY, rn_192 hBY, s2])); first | rw [Option.bind_some] | rw [bp_s] | rw [if_true] | rw [if_false] | rw [rv_lt_eq] | rw [if_pos (by omega)] | rw [if_neg (by omega)])
      rw [z1, nI_add]
    · by_cases ck : k = i
      · rw [ck]; exact rv_sI_eq _ _ _ _
      · show (rv_sI Y 191 i (nI (u1 m 6 (m 0) i))).2.1 191 k = _
        rw [rv_sI_k _ _ ck]; exact hY k (by omega)
  · obtain ⟨Y, y2⟩ := y
    obtain ⟨rfl, fY, hY⟩ := hy
    have fY : rvf [191] R1 Y := fY
    have hBY := fY.B hB1
    have fZ : rvf [191] R1 (rv_sI Y 191 420 (nI 0)) := fY.tr (rvf.sIr Y _ _ rfl)
    obtain ⟨R', e, g⟩ := part2 (rv_sI Y 191 420 (nI 0)) fZ (fun k hk => by rw [rv_sI_k _ _ (by omega)]; exact hY k hk) (rv_sI_eq _ _ _ _)
    refine ⟨R', ?_, g⟩
    show cX13_valley_63 n (q + 1) Y 189 x (nI 420) = _
    rw [cX13_valley_63, if_pos (by rw [z420, n_le (by omega) (by omega)]; omega), cX13_valley_88]
    repeat (first | (conv => (lhs; arg 1; simp (disch := first | assumption | omega) only [tk_gI, tk_gL, tk_gR, tk_pI, tk_pL, rv_aI, rv_aL, rv_aR, rv_uI, rv_uL, rv_uB, rv_uZ, pu_ckI, pu_ckL, pu_lnI, pu_lnL, tk_rI, tk_rL, Option.bind_some, Option.map_some, rv_lt, tk_ix, z420, z0, rc_189 hBY, r14 hBY, rn_191 hBY])); first | rw [Option.bind_some] | rw [bp_s] | rw [if_true] | rw [if_false] | rw [rv_lt_eq] | rw [if_pos (by omega)] | rw [if_neg (by omega)])
    exact e
end
