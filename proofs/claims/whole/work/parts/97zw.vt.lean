/-! VALLEY TEXTS: both sides between two tokens -/
section
variable {n : Nat} {C R : rvS} {b : Nat → Nat} {L M a : Nat} {T : Tk} {m : Nat → Nat} {wd : Nat → List Nat}
/-- the class's reader, the cell a -/
def isVT (C : rvS) (a : Nat) : Prop := 218 ≤ a ∧ a < 2000 ∧ C.1[a - 64]? = some (9, 8) ∧ C.2.2.2 a 0 = some 65 ∧ C.2.2.2 a 1 = some 87
theorem isVT.ck (h : isVT C a) : rv_ck C 9 a = some () := by
  obtain ⟨h1, h2, h3, -⟩ := h
  unfold rv_ck
  exact if_pos (rv_isB_iff.mpr ⟨by omega, h3⟩)
theorem no_a {D : List Nat} (h : isVT C a) (hD : D.all (fun d => decide (d < 218) || decide (2000 ≤ d)) = true) : D.elem a = false := by
  obtain ⟨h1, h2, -⟩ := h
  cases e : D.elem a
  · rfl
  · have := List.all_eq_true.mp hD a (List.elem_iff.mp e)
    simp only [Bool.or_eq_true, decide_eq_true_eq] at this
    omega
theorem no_b {D : List Nat} (h : isVT C a) {x : Nat} (hx : D.elem x = false) (hx2 : x < 218 ∨ 2000 ≤ x) : (D ++ [a]).elem x = false := by
  obtain ⟨h1, h2, -⟩ := h
  cases e : (D ++ [a]).elem x
  · rfl
  · rcases List.mem_append.mp (List.elem_iff.mp e) with z | z
    · rw [List.elem_iff.mpr z] at hx; cases hx
    · have := List.mem_singleton.mp z; omega
theorem lc_a (h : isVT C a) (k : Nat) : lc a k = a := by
  obtain ⟨h1, h2, -⟩ := h
  unfold lc
  rw [if_neg (by omega)]
theorem isVT.f {D : List Nat} {C' : rvS} (h : isVT C a) (f : rvf D C C') (hD : D.all (fun d => decide (d < 218) || decide (2000 ≤ d)) = true) : isVT C' a := by
  have hn := no_a h hD
  have e : ∀ k, C'.2.2.2 a k = C.2.2.2 a k := fun k => f.2.1.2 a k (fun z => by
    rw [lc_a h] at z
    rw [List.elem_iff.mpr z] at hn
    cases hn)
  obtain ⟨h1, h2, h3, h4, h5⟩ := h
  exact ⟨h1, h2, by rw [f.1]; exact h3, by rw [e]; exact h4, by rw [e]; exact h5⟩
theorem isVT.w {x k : Nat} {v : Int32} (h : isVT C a) : isVT (rv_sI C x k v) a := h
theorem isVT.rest {D : List Nat} {C' : rvS} (h : isVT C a) (f : rvf D C C') (hD : D.all (fun d => decide (d < 218) || decide (2000 ≤ d)) = true) (k : Nat) : C'.2.1 a k = C.2.1 a k := by
  have hn := no_a h hD
  exact (f.2.2 a k (fun z => by
    rw [lc_a h] at z
    rw [List.elem_iff.mpr z] at hn
    cases hn)).1
abbrev DTl : List Nat := [65003, 65004, 65005, 65006, 65007, 65008, 65009, 65010]
abbrev DRt : List Nat := [189005, 189006, 189007, 189008, 189009, 189010, 189011, 189012, 189013]
/-- what the class's small readers touch -/
def FrA (a : Nat) (ks : List Nat) (C C' : rvS) : Prop := rvf (DTl ++ [a]) C C' ∧ isVT C' a ∧ ∀ k, ks.elem k = false → C'.2.1 a k = C.2.1 a k
theorem mem_app_l {x a : Nat} {D : List Nat} (h : D.elem x = true) : (D ++ [a]).elem x = true := List.elem_iff.mpr (List.mem_append.mpr (Or.inl (List.elem_iff.mp h)))
theorem mono_a {D D' : List Nat} {a : Nat} {C C' : rvS} (f : rvf D C C') (h : D.all (fun d => D'.elem d) = true) : rvf (D' ++ [a]) C C' := f.mono (List.all_eq_true.mpr fun d hd => mem_app_l (List.all_eq_true.mp h d hd))
theorem FrA.of {D : List Nat} {C' : rvS} (h : isVT C a) (f : rvf D C C') (hD : D.all (fun d => DTl.elem d) = true) : FrA a [] C C' := by
  have hD2 : D.all (fun d => decide (d < 218) || decide (2000 ≤ d)) = true := List.all_eq_true.mpr fun d hd => by
    have := List.elem_iff.mp (List.all_eq_true.mp hD d hd)
    simp only [List.mem_cons, List.not_mem_nil, or_false] at this
    simp only [Bool.or_eq_true, decide_eq_true_eq]
    omega
  exact ⟨mono_a f hD, h.f f hD2, fun k _ => h.rest f hD2 k⟩
theorem FrA.w (h : isVT C a) (k : Nat) (v : Int32) : FrA a [k] C (rv_sI C a k v) := by
  refine ⟨(rvf.sI C a k v).mono ?_, h, fun j hj => rv_sI_k _ _ (fun z => ?_) _⟩
  · rw [List.all_cons, lc_a h, List.all_nil, Bool.and_true]
    exact List.elem_iff.mpr (List.mem_append.mpr (Or.inr (List.mem_singleton_self a)))
  · rw [z] at hj
    simp at hj
theorem FrA.tr {ks ks' : List Nat} {C1 C2 : rvS} (h : FrA a ks C C1) (h2 : FrA a ks' C1 C2) : FrA a (ks ++ ks') C C2 := ⟨h.1.tr h2.1, h2.2.1, fun k hk => by
  have e1 : ks'.elem k = false := by
    cases e : ks'.elem k
    · rfl
    · rw [List.elem_iff.mpr (List.mem_append.mpr (Or.inr (List.elem_iff.mp e)))] at hk; cases hk
  have e2 : ks.elem k = false := by
    cases e : ks.elem k
    · rfl
    · rw [List.elem_iff.mpr (List.mem_append.mpr (Or.inl (List.elem_iff.mp e)))] at hk; cases hk
  rw [h2.2.2 k e1, h.2.2 k e2]⟩
theorem FrA.mono {ks ks' : List Nat} {C1 : rvS} (h : FrA a ks C C1) (hs : ks.all (fun k => ks'.elem k) = true) : FrA a ks' C C1 := ⟨h.1, h.2.1, fun k hk => h.2.2 k (by
  cases e : ks.elem k
  · rfl
  · rw [List.all_eq_true.mp hs k (List.elem_iff.mp e)] at hk; cases hk)⟩
/-- what is true of a draft -/
def okv (m : Nat → Nat) (wd : Nat → List Nat) : Prop := okm m ∧ vW m ≤ 16 ∧ m 6 = 0 ∧ (∀ k, 8 + 5 * vW m ≤ k → k < 128 → m k = 0) ∧ ∀ w, w < vW m → okL (wd w)
/-- both sides' drafts -/
def DRF (C R : rvS) (m : Nat → Nat) (wd : Nat → List Nat) : Prop := CR C 87 m ∧ (∀ w, w < vW m → C.2.2.1 92 w = lN (c32 (wd w))) ∧ (∀ k, k < 420 → R.2.1 192 k = nI (m k)) ∧ (∀ w, w < vW m → R.2.2.1 196 w = lN (c27 (wd w))) ∧ okv m wd
theorem DRF.fc {C' : rvS} (h : DRF C R m wd) (ha : isVT C a) (f : rvf (DTl ++ [a]) C C') : DRF C' R m wd := by
  obtain ⟨h1, h2, h3⟩ := h
  have g : ∀ x, x ∈ [87, 88, 89, 90, 91, 92, 93, 94, 95, 96, 97, 98, 104, 105, 106] → (DTl ++ [a]).elem x = false := fun x hx => no_b ha (by
    simp only [List.mem_cons, List.not_mem_nil, or_false] at hx
    rcases hx with rfl | rfl | rfl | rfl | rfl | rfl | rfl | rfl | rfl | rfl | rfl | rfl | rfl | rfl | rfl <;> rfl) (Or.inl (by
    simp only [List.mem_cons, List.not_mem_nil, or_false] at hx
    omega))
  refine ⟨h1.f f (Or.inr (Or.inl rfl)) (Or.inr (by decide)) (Or.inl (List.all_eq_true.mpr fun x hx => ?_)) (Or.inr (by decide)) (Or.inr (by decide)), fun w hw => ?_, h3⟩
  · rw [g x (by
      simp only [List.mem_cons, List.not_mem_nil, or_false] at hx ⊢
      omega)]
    rfl
  · rw [f.rowL (a := 92) rfl (g 92 (by decide))]; exact h2 w hw
theorem DRF.fr {D : List Nat} {R' : rvS} (h : DRF C R m wd) (f : rvf D R R') (hd : D.elem 192 = false) (hd2 : D.elem 196 = false) : DRF C R' m wd := by
  obtain ⟨h1, h2, h3, h4, h5⟩ := h
  exact ⟨h1, h2, fun k hk => by rw [f.row (a := 192) rfl hd]; exact h3 k hk, fun w hw => by rw [f.rowL (a := 196) rfl hd2]; exact h4 w hw, h5⟩
theorem KX.fa {ks : List Nat} {C' : rvS} (h : KX C R b L M T) (ha : isVT C a) (k : Nat) (v : Int32) : KX (rv_sI C a k v) R b L M T := by
  have f : rvf [a] C (rv_sI C a k v) := by
    have := rvf.sI C a k v
    rwa [lc_a ha] at this
  refine h.fc f (List.all_eq_true.mpr fun x hx => ?_)
  have := no_b (D := []) ha (x := x) rfl (by
    simp only [List.mem_cons, List.not_mem_nil, or_false] at hx
    omega)
  rw [List.nil_append] at this
  rw [this]
  rfl
/-- both sides between two tokens -/
def VT (C R : rvS) (a : Nat) (b : Nat → Nat) (L M : Nat) (T : Tk) (m : Nat → Nat) (wd : Nat → List Nat) : Prop := KX C R b L M T ∧ isVT C a ∧ DRF C R m wd
theorem vt_next (hn : 1000 ≤ n) (h : VT C R a b L M T m wd) : ∃ C' R' T', fnX8_next n C 65 = some C' ∧ fnX13_go n R 189 = some R' ∧ FrA a [] C C' ∧ rvf DU R R' ∧ VT C' R' a b L M T' m wd ∧ NXT b L M T T' := by
  obtain ⟨h1, h2, h3⟩ := h
  obtain ⟨C', R', T', e1, e2, f1, f2, g, nx⟩ := lk_next (n := n) hn h1
  have fa := FrA.of h2 f1 rfl
  exact ⟨C', R', T', e1, e2, fa, f2, ⟨g, fa.2.1, (h3.fc h2 fa.1).fr f2 rfl rfl⟩, nx⟩
theorem vt_fail (h : VT C R a b L M T m wd) {f : Nat} (hf : f ≤ 4) (h1 : f = 1 ∨ (T.2.2.1 ≠ 1 ∧ T.2.2.1 ≠ 46)) : ∃ C' R', fnX8_fail n C 65 (nI f) = some (0, C') ∧ fnX13_bad n R 189 (nI f) = some (0, R') ∧ FrA a [] C C' ∧ rvf DRt R R' ∧ FL C' R' := by
  obtain ⟨C', R', e1, e2, f1, f2, g⟩ := lk_fail (n := n) h.1 hf h1
  exact ⟨C', R', e1, e2, FrA.of h.2.1 f1 rfl, f2.mono rfl, g⟩
theorem vt_w3 (h : VT C R a b L M T m wd) (k : Nat) (v : Int32) : VT (rv_sI C a k v) R a b L M T m wd := ⟨h.1.fa (ks := []) (C' := C) h.2.1 k v, h.2.1, h.2.2.fc h.2.1 (FrA.w h.2.1 k v).1⟩
theorem vt_r13 (h : VT C R a b L M T m wd) (v : Int32) : VT C (rv_sI R 189 13 v) a b L M T m wd := ⟨h.1.fr (rvf.sI R 189 13 v) rfl, h.2.1, h.2.2.fr (rvf.sI R 189 13 v) rfl rfl⟩
/-- a number between two -/
theorem vt_sees (hn : 1000 ≤ n) (h : VT C R a b L M T m wd) {lo hi : Nat} (hlo : lo ≤ 999) (hhi : hi ≤ 999) : ∃ C' R', FrA a [3] C C' ∧ rvf DRt R R' ∧ ((fnX10_seesNumber n C a (nI lo) (nI hi) = some (0, C') ∧ fnX13_isNumber n R 189 (nI lo) (nI hi) = some (0, R') ∧ FL C' R') ∨ (∃ v, lo ≤ v ∧ v ≤ hi ∧ T.2.2.1 = 3 ∧ fnX10_seesNumber n C a (nI lo) (nI hi) = some (1, C') ∧ fnX13_isNumber n R 189 (nI lo) (nI hi) = some (1, R') ∧ C'.2.1 a 3 = nI v ∧ R'.2.1 189 13 = nI v ∧ VT C' R' a b L M T m wd)) := by
  obtain ⟨hK, ha, hD⟩ := id h
  obtain ⟨hB, hB2, hTC, hTR, hC, hR, hT, hL⟩ := id hK
  have ck := ha.ck
  have r0 := ha.2.2.2.1
  have c65 := rc_65 hB
  have hr := rkd_lt T.2.2.1
  have h64 := hT.2.2.1
  by_cases c : T.2.2.1 = 3
  · have e6 := hC.2.2.2.1 c
    have e8 := hR.2.2.2.2.1 c
    have h999 := hT.2.2.2.2.1 c
    have hv := vt_w3 h 3 (nI T.2.2.2.1)
    have fw := FrA.w ha 3 (nI T.2.2.2.1)
    have ck2 := hv.2.1.ck
    have s3 : (rv_sI C a 3 (nI T.2.2.2.1)).2.1 a 3 = nI T.2.2.2.1 := rv_sI_eq _ _ _ _
    have cl : ∀ X, (if T.2.2.2.1 < lo then cX10_seesNumber_47 n (rv_sI C a 3 (nI T.2.2.2.1)) a else if T.2.2.2.1 ≤ hi then some (1, rv_sI C a 3 (nI T.2.2.2.1)) else cX10_seesNumber_47 n (rv_sI C a 3 (nI T.2.2.2.1)) a) = X → fnX10_seesNumber n C a (nI lo) (nI hi) = X := fun X hX => by
      rw [fnX10_seesNumber]
      repeat (first | (conv => (lhs; arg 1; simp (disch := first | assumption | omega) only [tk_gI, tk_gL, tk_gR, tk_pI, tk_pL, rv_aI, rv_aL, rv_aR, rv_uI, rv_uL, rv_uB, rv_uZ, pu_ckI, pu_ckL, pu_lnI, pu_lnL, tk_rI, tk_rL, Option.bind_some, Option.map_some, rv_lt, tk_ix, ck, r0, c65, hC.2.2.1])); first | rw [Option.bind_some] | rw [bp_s] | rw [if_true] | rw [if_false] | rw [rv_lt_eq] | rw [if_pos (by omega)] | rw [if_neg (by omega)])
      rw [if_pos (by rw [c]; rfl)]
      repeat (first | (conv => (lhs; arg 1; simp (disch := first | assumption | omega) only [tk_gI, tk_gL, tk_gR, tk_pI, tk_pL, rv_aI, rv_aL, rv_aR, rv_uI, rv_uL, rv_uB, rv_uZ, pu_ckI, pu_ckL, pu_lnI, pu_lnL, tk_rI, tk_rL, Option.bind_some, Option.map_some, rv_lt, tk_ix, ck, r0, c65, e6, s3])); first | rw [Option.bind_some] | rw [bp_s] | rw [if_true] | rw [if_false] | rw [rv_lt_eq] | rw [if_pos (by omega)] | rw [if_neg (by omega)])
      simp (disch := first | assumption | omega) only [n_lt]
      rw [← hX]
      by_cases d : T.2.2.2.1 < lo
      · rw [if_pos d, if_pos d]
      · rw [if_neg d, if_neg d]
        repeat (first | (conv => (lhs; arg 1; simp (disch := first | assumption | omega) only [tk_gI, tk_gL, tk_gR, tk_pI, tk_pL, rv_aI, rv_aL, rv_aR, rv_uI, rv_uL, rv_uB, rv_uZ, pu_ckI, pu_ckL, pu_lnI, pu_lnL, tk_rI, tk_rL, Option.bind_some, Option.map_some, rv_lt, tk_ix, ck, ck2, s3])); first | rw [Option.bind_some] | rw [bp_s] | rw [if_true] | rw [if_false] | rw [rv_lt_eq] | rw [if_pos (by omega)] | rw [if_neg (by omega)])
        simp (disch := first | assumption | omega) only [n_le]
    have rf : ∀ X, (if T.2.2.2.1 < lo ∨ hi < T.2.2.2.1 then ((rv_ck R 11 189).bind fun u14_ => rv_bp (fnX13_bad n R 189 (2 : Int32)) fun x17_ S18_ => (rv_bo x17_).bind fun b_ => some (b_, S18_)) else some (1, rv_sI R 189 13 (nI T.2.2.2.1))) = X → fnX13_isNumber n R 189 (nI lo) (nI hi) = X := fun X hX => by
      rw [fnX13_isNumber]
      repeat (first | (conv => (lhs; arg 1; simp (disch := first | assumption | omega) only [tk_gI, tk_gL, tk_gR, tk_pI, tk_pL, rv_aI, rv_aL, rv_aR, rv_uI, rv_uL, rv_uB, rv_uZ, pu_ckI, pu_ckL, pu_lnI, pu_lnL, tk_rI, tk_rL, Option.bind_some, Option.map_some, rv_lt, tk_ix, rc_189 hB2, hR.2.2.1])); first | rw [Option.bind_some] | rw [bp_s] | rw [if_true] | rw [if_false] | rw [rv_lt_eq] | rw [if_pos (by omega)] | rw [if_neg (by omega)])
      rw [if_pos (by rw [(rkd_s (by decide)).mpr c]; rfl)]
      repeat (first | (conv => (lhs; arg 1; simp (disch := first | assumption | omega) only [tk_gI, tk_gL, tk_gR, tk_pI, tk_pL, rv_aI, rv_aL, rv_aR, rv_uI, rv_uL, rv_uB, rv_uZ, pu_ckI, pu_ckL, pu_lnI, pu_lnL, tk_rI, tk_rL, Option.bind_some, Option.map_some, rv_lt, tk_ix, rc_189 hB2, e8])); first | rw [Option.bind_some] | rw [bp_s] | rw [if_true] | rw [if_false] | rw [rv_lt_eq] | rw [if_pos (by omega)] | rw [if_neg (by omega)])
      rw [fnX13_isIn]
      simp (disch := first | assumption | omega) only [n_lt]
      rw [← hX]
      by_cases d : T.2.2.2.1 < lo
      · rw [if_pos d, if_pos (Or.inl d), Option.bind_some, if_pos rfl]
      · rw [if_neg d]
        by_cases d2 : hi < T.2.2.2.1
        · rw [if_pos d2, if_pos (Or.inr d2), Option.bind_some, if_pos rfl]
        · rw [if_neg d2, if_neg (fun z => z.elim d d2), Option.bind_some, if_neg (by decide)]
          repeat (first | (conv => (lhs; arg 1; simp (disch := first | assumption | omega) only [tk_gI, tk_gL, tk_gR, tk_pI, tk_pL, rv_aI, rv_aL, rv_aR, rv_uI, rv_uL, rv_uB, rv_uZ, pu_ckI, pu_ckL, pu_lnI, pu_lnL, tk_rI, tk_rL, Option.bind_some, Option.map_some, rv_lt, tk_ix, rc_189 hB2, e8])); first | rw [Option.bind_some] | rw [bp_s] | rw [if_true] | rw [if_false] | rw [rv_lt_eq] | rw [if_pos (by omega)] | rw [if_neg (by omega)])
    by_cases d : lo ≤ T.2.2.2.1 ∧ T.2.2.2.1 ≤ hi
    · refine ⟨rv_sI C a 3 (nI T.2.2.2.1), rv_sI R 189 13 (nI T.2.2.2.1), fw, (rvf.sI R 189 13 _).mono rfl, Or.inr ⟨T.2.2.2.1, d.1, d.2, c, cl _ ?_, rf _ ?_, s3, rv_sI_eq _ _ _ _, vt_r13 hv _⟩⟩
      · rw [if_neg (by omega), if_pos d.2]
      · rw [if_neg (by omega)]
    · obtain ⟨C', R', e1, e2, fa, f2, g⟩ := vt_fail (n := n) hv (f := 2) (by decide) (Or.inr ⟨by omega, by omega⟩)
      have r02 := hv.2.1.2.2.2.1
      have c652 := rc_65 hv.1.1
      have e47 : cX10_seesNumber_47 n (rv_sI C a 3 (nI T.2.2.2.1)) a = some (0, C') := by
        rw [cX10_seesNumber_47]
        repeat (first | (conv => (lhs; arg 1; simp (disch := first | assumption | omega) only [tk_gI, tk_gL, tk_gR, tk_pI, tk_pL, rv_aI, rv_aL, rv_aR, rv_uI, rv_uL, rv_uB, rv_uZ, pu_ckI, pu_ckL, pu_lnI, pu_lnL, tk_rI, tk_rL, Option.bind_some, Option.map_some, rv_lt, tk_ix, ck2, r02, c652])); first | rw [Option.bind_some] | rw [bp_s] | rw [if_true] | rw [if_false] | rw [rv_lt_eq] | rw [if_pos (by omega)] | rw [if_neg (by omega)])
        rw [z2, e1, bp_s, if_pos rfl]
      refine ⟨C', R', fw.tr fa, f2, Or.inl ⟨cl _ ?_, rf _ ?_, g⟩⟩
      · by_cases d1 : T.2.2.2.1 < lo
        · rw [if_pos d1, e47]
        · rw [if_neg d1, if_neg (by omega), e47]
      · rw [if_pos (by omega), rc_189 hB2, Option.bind_some, z2, e2, bp_s]
        rfl
  · obtain ⟨C', R', e1, e2, fa, f2, g⟩ := vt_fail (n := n) h (f := 1) (by decide) (Or.inl rfl)
    refine ⟨C', R', fa.mono rfl, f2, Or.inl ⟨?_, ?_, g⟩⟩
    · rw [fnX10_seesNumber]
      repeat (first | (conv => (lhs; arg 1; simp (disch := first | assumption | omega) only [tk_gI, tk_gL, tk_gR, tk_pI, tk_pL, rv_aI, rv_aL, rv_aR, rv_uI, rv_uL, rv_uB, rv_uZ, pu_ckI, pu_ckL, pu_lnI, pu_lnL, tk_rI, tk_rL, Option.bind_some, Option.map_some, rv_lt, tk_ix, ck, r0, c65, hC.2.2.1])); first | rw [Option.bind_some] | rw [bp_s] | rw [if_true] | rw [if_false] | rw [rv_lt_eq] | rw [if_pos (by omega)] | rw [if_neg (by omega)])
      rw [if_neg (by rw [z3, n_eq (by omega) (by omega)]; exact c)]
      repeat (first | (conv => (lhs; arg 1; simp (disch := first | assumption | omega) only [tk_gI, tk_gL, tk_gR, tk_pI, tk_pL, rv_aI, rv_aL, rv_aR, rv_uI, rv_uL, rv_uB, rv_uZ, pu_ckI, pu_ckL, pu_lnI, pu_lnL, tk_rI, tk_rL, Option.bind_some, Option.map_some, rv_lt, tk_ix, ck, r0, c65])); first | rw [Option.bind_some] | rw [bp_s] | rw [if_true] | rw [if_false] | rw [rv_lt_eq] | rw [if_pos (by omega)] | rw [if_neg (by omega)])
      rw [z1, e1, bp_s]
      rfl
    · rw [fnX13_isNumber]
      repeat (first | (conv => (lhs; arg 1; simp (disch := first | assumption | omega) only [tk_gI, tk_gL, tk_gR, tk_pI, tk_pL, rv_aI, rv_aL, rv_aR, rv_uI, rv_uL, rv_uB, rv_uZ, pu_ckI, pu_ckL, pu_lnI, pu_lnL, tk_rI, tk_rL, Option.bind_some, Option.map_some, rv_lt, tk_ix, rc_189 hB2, hR.2.2.1])); first | rw [Option.bind_some] | rw [bp_s] | rw [if_true] | rw [if_false] | rw [rv_lt_eq] | rw [if_pos (by omega)] | rw [if_neg (by omega)])
      rw [if_neg (by rw [z3, n_eq (by omega) (by omega), rkd_s (by decide)]; exact c)]
      rw [rc_189 hB2, Option.bind_some, z1, e2, bp_s]
      rfl
end
