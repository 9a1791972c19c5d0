/-! TEXTS: the class's next token -/
section
variable {n : Nat} {C R : rvS} {b : Nat → Nat} {L M : Nat}
theorem TXC.f {D : List Nat} {C' : rvS} (h : TXC C b L M) (f : rvf D C C') (hd : D.elem 65001 = false) (hd2 : D.elem 65002 = false) (hd3 : D.elem 66 = false) : TXC C' b L M := by
  obtain ⟨h1, h2, h3, h4, h5⟩ := h
  exact ⟨h1, h2, by rw [f.at (a := 65) (k := 1) hd]; exact h3, by rw [f.at (a := 65) (k := 2) hd2]; exact h4, fun j hj => ⟨(h5 j hj).1, by rw [f.row (a := 66) rfl hd3 j]; exact (h5 j hj).2⟩⟩
theorem l_add (a c : Nat) : lN a + lN c = lN (a + c) := (Int64.ofNat_add a c).symm
theorem rR_eq (S : rvS) (a k : Nat) (v : Option Nat) : (rv_sR S a k v).2.2.2 a k = v := if_pos ⟨rfl, rfl⟩
/-- the end of a run -/
theorem k_runEnd (hn : 30 ≤ n) (hB : rv_B C) {l : List Nat} (h1 : 1 ≤ l.length) (h940 : l.length ≤ 940) (hr : ∀ x ∈ l, tq_rn x = true) (hI : IVC C l) : ∃ C', cX8_readRun_105 n C 65 (nI (nlt l)) (nI (ndg l)) = some C' ∧ rvf DT C C' ∧ C'.2.1 65 3 = C.2.1 65 3 ∧ C'.2.1 65 5 = C.2.1 65 5 ∧ C'.2.1 65 4 = nI (tq_kd l) ∧ (tq_kd l = 3 → C'.2.1 65 6 = nI (tq_dec l)) ∧ (tq_kd l = 2 → C'.2.2.1 65 7 = lN (c32 (l.map (fun x => x - 96))) ∧ C'.2.2.2 65 8 = some (wo (l.map (fun x => x - 96)))) := by
  have q1 := nlt_le l
  have q2 := ndg_le l
  have fw : ∀ v : Int32, rvf DT C (rv_sI C 65 4 v) := fun v => (rvf.sI C 65 4 v).mono rfl
  have big : ∀ v : Nat, v = tq_kd l → (v = 2 → False) → rv_pI C 7 65 4 (nI v) = some (rv_sI C 65 4 (nI v)) ∧ rvf DT C (rv_sI C 65 4 (nI v)) ∧ (rv_sI C 65 4 (nI v)).2.1 65 3 = C.2.1 65 3 ∧ (rv_sI C 65 4 (nI v)).2.1 65 5 = C.2.1 65 5 ∧ (rv_sI C 65 4 (nI v)).2.1 65 4 = nI (tq_kd l) ∧ (tq_kd l = 3 → (rv_sI C 65 4 (nI v)).2.1 65 6 = nI (tq_dec l)) ∧ (tq_kd l = 2 → (rv_sI C 65 4 (nI v)).2.2.1 65 7 = lN (c32 (l.map (fun x => x - 96))) ∧ (rv_sI C 65 4 (nI v)).2.2.2 65 8 = some (wo (l.map (fun x => x - 96)))) := fun v hv h2 => by
    refine ⟨rp_65 hB _ _, fw _, rv_sI_k _ _ (by decide) _, rv_sI_k _ _ (by decide) _, by rw [rv_sI_eq, hv], fun h => ?_, fun h => absurd (hv.trans h) h2⟩
    rw [rv_sI_k _ _ (by decide)]
    unfold tq_kd at h
    split at h
    · exact absurd h (by decide)
    · split at h
      · rename_i g; exact hI.2 g.1
      · exact absurd h (by decide)
  have e134 : tq_kd l ≠ 2 → ∃ C', cX8_readRun_134 n C 65 (nI (nlt l)) (nI (ndg l)) = some C' ∧ rvf DT C C' ∧ C'.2.1 65 3 = C.2.1 65 3 ∧ C'.2.1 65 5 = C.2.1 65 5 ∧ C'.2.1 65 4 = nI (tq_kd l) ∧ (tq_kd l = 3 → C'.2.1 65 6 = nI (tq_dec l)) ∧ (tq_kd l = 2 → C'.2.2.1 65 7 = lN (c32 (l.map (fun x => x - 96))) ∧ C'.2.2.2 65 8 = some (wo (l.map (fun x => x - 96)))) := fun hk => by
    have hk1 : tq_kd l = if l.all tq_dg = true ∧ l.length ≤ 3 then 3 else 1 := by
      unfold tq_kd at hk ⊢
      split
      · rename_i g; rw [if_pos g] at hk; exact absurd rfl hk
      · rfl
    rw [cX8_readRun_134, z0, z3, z1]
    simp (disch := first | assumption | omega) only [n_eq, n_lt]
    by_cases c1 : nlt l = 0
    · have hd := (nlt_0 hr).mp c1
      rw [if_pos c1, ndg_all hd]
      by_cases c2 : 3 < l.length
      · obtain ⟨e, g⟩ := big 1 (by rw [hk1, if_neg (fun z => absurd z.2 (by omega))]) (by decide)
        refine ⟨_, ?_, g⟩
        rw [if_pos c2, e]; rfl
      · obtain ⟨e, g⟩ := big 3 (by rw [hk1, if_pos ⟨hd, by omega⟩]) (by decide)
        refine ⟨_, ?_, g⟩
        rw [if_neg c2, e]; rfl
    · obtain ⟨e, g⟩ := big 1 (by rw [hk1, if_neg (fun z => c1 ((nlt_0 hr).mpr z.1))]) (by decide)
      refine ⟨_, ?_, g⟩
      rw [if_neg c1, e]; rfl
  rw [cX8_readRun_105, z0, z8]
  simp (disch := first | assumption | omega) only [n_eq, n_lt]
  by_cases c1 : ndg l = 0
  · have hl := ndg_0.mp c1
    rw [if_pos c1]
    by_cases c2 : 8 < nlt l
    · rw [if_pos c2]
      refine e134 (fun z => ?_)
      unfold tq_kd at z
      rw [nlt_all hl] at c2
      rw [if_neg (fun y => absurd y.2 (by omega))] at z
      split at z <;> exact absurd z (by decide)
    · rw [if_neg c2]
      rw [nlt_all hl] at c2
      have hk : tq_kd l = 2 := if_pos ⟨hl, by omega⟩
      have ok := okL_map hl h1 (by omega)
      have f2 := fw (nI 2)
      have hB2 := f2.B hB
      have c7 : (rv_sI C 65 4 (nI 2)).2.2.1 65 7 = lN (c32 (l.map (fun x => x - 96))) := hI.1 hl
      have ko := k_of n hn (rv_sI C 65 4 (nI 2)) ok
      have wl := wo_lt (l.map (fun x => x - 96))
      refine ⟨rv_sR (rv_sI C 65 4 (nI 2)) 65 8 (some (wo (l.map (fun x => x - 96)))), ?_, f2.tr (rvf.sR8 _ _), ?_, ?_, ?_, fun z => absurd (hk.symm.trans z) (by decide), fun _ => ⟨c7, rR_eq _ _ _ _⟩⟩
      · rw [z2]
        repeat (first | (conv => (lhs; arg 1; simp (disch := first | assumption | omega) only [tk_gI, tk_gL, tk_gR, tk_pI, tk_pL, rv_aI, rv_aL, rv_aR, rv_uI, rv_uL, rv_uB, rv_uZ, pu_ckI, pu_ckL, pu_lnI, pu_lnL, tk_rI, tk_rL, Option.bind_some, Option.map_some, rv_lt, tk_ix, rc_65 hB, rc_65 hB2, c7])); first | rw [Option.bind_some] | rw [bp_s] | rw [if_true] | rw [if_false] | rw [rv_lt_eq] | rw [if_pos (by omega)] | rw [if_neg (by omega)])
        rw [ko, Option.bind_some, tk_pR8 hB2 (by omega)]
        rfl
      · show (rv_sI C 65 4 (nI 2)).2.1 65 3 = _
        exact rv_sI_k _ _ (by decide) _
      · show (rv_sI C 65 4 (nI 2)).2.1 65 5 = _
        exact rv_sI_k _ _ (by decide) _
      · show (rv_sI C 65 4 (nI 2)).2.1 65 4 = _
        rw [rv_sI_eq, hk]
  · rw [if_neg c1]
    refine e134 (fun z => c1 ?_)
    unfold tq_kd at z
    split at z
    · rename_i g; exact ndg_0.mpr g.1
    · split at z <;> exact absurd z (by decide)
theorem all_app {q : Nat → Bool} {l : List Nat} {x : Nat} : (l ++ [x]).all q = (l.all q && q x) := by
  rw [List.all_append]
  simp
theorem k_runLoop (hn : 30 ≤ n) : ∀ r q p l (C : rvS), p + r = L → r < q → 1 ≤ l.length + r → l.length ≤ p → rv_B C → TXC C b L M → C.2.1 65 3 = nI p → (∀ x ∈ l, tq_rn x = true) → 1 ≤ (l ++ tq_run b p r).length → IVC C l → ∃ C', cX8_readRun_14 n q C 65 (nI (nlt l)) (nI (ndg l)) = some C' ∧ rvf DT C C' ∧ C'.2.1 65 3 = nI (p + (tq_run b p r).length) ∧ C'.2.1 65 5 = C.2.1 65 5 ∧ C'.2.1 65 4 = nI (tq_kd (l ++ tq_run b p r)) ∧ (tq_kd (l ++ tq_run b p r) = 3 → C'.2.1 65 6 = nI (tq_dec (l ++ tq_run b p r))) ∧ (tq_kd (l ++ tq_run b p r) = 2 → C'.2.2.1 65 7 = lN (c32 ((l ++ tq_run b p r).map (fun x => x - 96))) ∧ C'.2.2.2 65 8 = some (wo ((l ++ tq_run b p r).map (fun x => x - 96)))) := by
  intro r
  induction r with
  | zero =>
    intro q p l C hp hq _ hlp hB hT h3 hr h1 hI
    obtain ⟨q, rfl⟩ : ∃ q', q = q' + 1 := ⟨q - 1, by omega⟩
    have hL := hT.1
    have e : l ++ tq_run b p 0 = l := List.append_nil l
    rw [e] at h1 ⊢
    obtain ⟨C', e1, f1, g3, g5, g⟩ := k_runEnd (n := n) hn hB h1 (by omega) hr hI
    refine ⟨C', ?_, f1, by rw [g3, h3]; rfl, g5, g⟩
    rw [cX8_readRun_14]
    repeat (first | (conv => (lhs; arg 1; simp (disch := first | assumption | omega) only [tk_gI, tk_gL, tk_gR, tk_pI, tk_pL, rv_aI, rv_aL, rv_aR, rv_uI, rv_uL, rv_uB, rv_uZ, pu_ckI, pu_ckL, pu_lnI, pu_lnL, tk_rI, tk_rL, Option.bind_some, Option.map_some, rv_lt, tk_ix, rc_65 hB, h3, hT.2.2.1])); first | rw [Option.bind_some] | rw [bp_s] | rw [if_true] | rw [if_false] | rw [rv_lt_eq] | rw [if_pos (by omega)] | rw [if_neg (by omega)])
    rw [if_pos (by rw [n_le (by omega) (by omega)]; omega)]
    exact e1
  | succ r ih =>
    intro q p l C hp hq _ hlp hB hT h3 hr h1 hI
    obtain ⟨q, rfl⟩ : ∃ q', q = q' + 1 := ⟨q - 1, by omega⟩
    have hL := hT.1
    have hb := (hT.2.2.2.2 p (by omega)).1
    have ks := k_signAt (n := n) hB hT (p := p) (by omega)
    have ko := k_isOfRun (n := n) (C := C) hb
    have kl := k_isLetter (n := n) (C := C) hb
    have q1 := nlt_le l
    have q2 := ndg_le l
    by_cases c : tq_rn (b p) = true
    · have er : tq_run b p (r + 1) = b p :: tq_run b (p + 1) r := by rw [tq_run, if_pos c]
      have ea : l ++ tq_run b p (r + 1) = (l ++ [b p]) ++ tq_run b (p + 1) r := by rw [er, List.append_assoc]; rfl
      rw [ea] at h1 ⊢
      have hr2 : ∀ x ∈ l ++ [b p], tq_rn x = true := fun x hx => by
        rcases List.mem_append.mp hx with hx | hx
        · exact hr x hx
        · rw [List.mem_singleton.mp hx]; exact c
      rw [c] at ko
      cases cl : tq_lt (b p)
      · have dg : tq_dg (b p) = true := by
          unfold tq_rn at c
          rw [cl, Bool.false_or] at c
          exact c
        have d1 := tq_dg_i.mp dg
        rw [cl] at kl
        obtain ⟨C2, eC2⟩ : ∃ C2, C2 = rv_sI (rv_sI C 65 6 (C.2.1 65 6 * (10 : Int32) + (nI (b p) - (48 : Int32)))) 65 3 (nI (p + 1)) := ⟨_, rfl⟩
        have f2 : rvf DT C C2 := by
          rw [eC2]
          exact ((rvf.sI C 65 6 _).mono rfl).tr ((rvf.sI _ 65 3 _).mono rfl)
        have hB2 := f2.B hB
        have g3 : C2.2.1 65 3 = nI (p + 1) := by rw [eC2, rv_sI_eq]
        have g5 : C2.2.1 65 5 = C.2.1 65 5 := by rw [eC2, rv_sI_k _ _ (by decide), rv_sI_k _ _ (by decide)]
        have hI2 : IVC C2 (l ++ [b p]) := by
          refine ⟨fun h => ?_, fun h => ?_⟩
          · rw [all_app, cl, Bool.and_false] at h; exact absurd h (by decide)
          · rw [all_app, dg, Bool.and_true] at h
            rw [eC2, rv_sI_k _ _ (by decide), rv_sI_eq, hI.2 h, dec_app, z10, z48, z_sub d1.1, z_mul, nI_add, Nat.mul_comm]
        obtain ⟨C', e1, f1, k3, k5, g⟩ := ih q (p + 1) (l ++ [b p]) C2 (by omega) (by omega) (by rw [List.length_append, List.length_singleton]; omega) (by rw [List.length_append, List.length_singleton]; omega) hB2 (hT.f f2 rfl rfl rfl) g3 hr2 h1 hI2
        refine ⟨C', ?_, f2.tr f1, ?_, k5.trans g5, g⟩
        · have n1 : nlt (l ++ [b p]) = nlt l := by
            show List.countP _ _ = _
            rw [List.countP_append]
            simp [cl]
          have n2 : ndg (l ++ [b p]) = ndg l + 1 := by
            show List.countP _ _ = _
            rw [List.countP_append]
            simp [cl]
          rw [n1, n2] at e1
          rw [cX8_readRun_14]
          repeat (first | (conv => (lhs; arg 1; simp (disch := first | assumption | omega) only [tk_gI, tk_gL, tk_gR, tk_pI, tk_pL, rv_aI, rv_aL, rv_aR, rv_uI, rv_uL, rv_uB, rv_uZ, pu_ckI, pu_ckL, pu_lnI, pu_lnL, tk_rI, tk_rL, Option.bind_some, Option.map_some, rv_lt, tk_ix, rc_65 hB, h3, hT.2.2.1])); first | rw [Option.bind_some] | rw [bp_s] | rw [if_true] | rw [if_false] | rw [rv_lt_eq] | rw [if_pos (by omega)] | rw [if_neg (by omega)])
          rw [if_neg (by rw [n_le (by omega) (by omega)]; omega)]
          repeat (first | (conv => (lhs; arg 1; simp (disch := first | assumption | omega) only [tk_gI, tk_gL, tk_gR, tk_pI, tk_pL, rv_aI, rv_aL, rv_aR, rv_uI, rv_uL, rv_uB, rv_uZ, pu_ckI, pu_ckL, pu_lnI, pu_lnL, tk_rI, tk_rL, Option.bind_some, Option.map_some, rv_lt, tk_ix, rc_65 hB, h3, ks, ko])); first | rw [Option.bind_some] | rw [bp_s] | rw [if_true] | rw [if_false] | rw [rv_lt_eq] | rw [if_pos (by omega)] | rw [if_neg (by omega)])
          rw [if_neg (show ¬ bI true = 0 by decide)]
          repeat (first | (conv => (lhs; arg 1; simp (disch := first | assumption | omega) only [tk_gI, tk_gL, tk_gR, tk_pI, tk_pL, rv_aI, rv_aL, rv_aR, rv_uI, rv_uL, rv_uB, rv_uZ, pu_ckI, pu_ckL, pu_lnI, pu_lnL, tk_rI, tk_rL, Option.bind_some, Option.map_some, rv_lt, tk_ix, rc_65 hB, h3, ks, kl])); first | rw [Option.bind_some] | rw [bp_s] | rw [if_true] | rw [if_false] | rw [rv_lt_eq] | rw [if_pos (by omega)] | rw [if_neg (by omega)])
          rw [if_pos (show bI false = 0 from rfl)]
          rw [show nI (ndg l) + 1 = nI (ndg l + 1) by rw [z1, nI_add], ← e1, eC2]
          repeat (first | (conv => (lhs; arg 1; simp (disch := first | assumption | omega) only [tk_gI, tk_gL, tk_gR, tk_pI, tk_pL, rv_aI, rv_aL, rv_aR, rv_uI, rv_uL, rv_uB, rv_uZ, pu_ckI, pu_ckL, pu_lnI, pu_lnL, tk_rI, tk_rL, Option.bind_some, Option.map_some, rv_lt, tk_ix, rc_65 hB, h3])); first | rw [Option.bind_some] | rw [bp_s] | rw [if_true] | rw [if_false] | rw [rv_lt_eq] | rw [if_pos (by omega)] | rw [if_neg (by omega)])
          rw [cX8_readRun_92]
          have s3 : ∀ v, (rv_sI C 65 6 v).2.1 65 3 = nI p := fun v => (rv_sI_k _ _ (by decide) _).trans h3
          repeat (first | (conv => (lhs; arg 1; simp (disch := first | assumption | omega) only [tk_gI, tk_gL, tk_gR, tk_pI, tk_pL, rv_aI, rv_aL, rv_aR, rv_uI, rv_uL, rv_uB, rv_uZ, pu_ckI, pu_ckL, pu_lnI, pu_lnL, tk_rI, tk_rL, Option.bind_some, Option.map_some, rv_lt, tk_ix, rc_65 hB, s3])); first | rw [Option.bind_some] | rw [bp_s] | rw [if_true] | rw [if_false] | rw [rv_lt_eq] | rw [if_pos (by omega)] | rw [if_neg (by omega)])
          rw [show nI p + 1 = nI (p + 1) by rw [z1, nI_add]]
        · rw [k3, er, List.length_cons]
          exact congrArg nI (by omega)
      · have d1 := tq_lt_i.mp cl
        rw [cl] at kl
        obtain ⟨C2, eC2⟩ : ∃ C2, C2 = rv_sI (rv_sL C 65 7 ((C.2.2.1 65 7 <<< ((5 : Int32).toInt64 &&& 63)) + ((nI (b p) - (97 : Int32)) + (1 : Int32)).toInt64)) 65 3 (nI (p + 1)) := ⟨_, rfl⟩
        have f2 : rvf DT C C2 := by
          rw [eC2]
          exact ((rvf.sL C 65 7 _).mono rfl).tr ((rvf.sI _ 65 3 _).mono rfl)
        have hB2 := f2.B hB
        have g3 : C2.2.1 65 3 = nI (p + 1) := by rw [eC2, rv_sI_eq]
        have g5 : C2.2.1 65 5 = C.2.1 65 5 := by rw [eC2, rv_sI_k _ _ (by decide)]; rfl
        have hI2 : IVC C2 (l ++ [b p]) := by
          refine ⟨fun h => ?_, fun h => ?_⟩
          · rw [all_app, cl, Bool.and_true] at h
            have e0 : C2.2.2.1 65 7 = (C.2.2.1 65 7 <<< ((5 : Int32).toInt64 &&& 63)) + ((nI (b p) - (97 : Int32)) + (1 : Int32)).toInt64 := by
              rw [eC2]
              exact rv_sL_eq _ _ _ _
            have e5 : lN (c32 (l.map (fun x => x - 96))) <<< ((5 : Int32).toInt64 &&& 63) = lN (c32 (l.map (fun x => x - 96)) * 32) := wb_shl _ (k := 5) (by decide)
            rw [e0, hI.1 h, e5, z97, z_sub d1.1, z1, nI_add, n_l (by omega), l_add, List.map_append]
            show _ = lN (c32 (l.map (fun x => x - 96) ++ [b p - 96]))
            rw [c32_app]
            exact congrArg lN (by omega)
          · rw [all_app] at h
            have : tq_dg (b p) = true := by
              rw [Bool.and_eq_true] at h; exact h.2
            have := tq_dg_i.mp this
            omega
        obtain ⟨C', e1, f1, k3, k5, g⟩ := ih q (p + 1) (l ++ [b p]) C2 (by omega) (by omega) (by rw [List.length_append, List.length_singleton]; omega) (by rw [List.length_append, List.length_singleton]; omega) hB2 (hT.f f2 rfl rfl rfl) g3 hr2 h1 hI2
        refine ⟨C', ?_, f2.tr f1, ?_, k5.trans g5, g⟩
        · have n1 : nlt (l ++ [b p]) = nlt l + 1 := by
            show List.countP _ _ = _
            rw [List.countP_append]
            simp [cl]
          have n2 : ndg (l ++ [b p]) = ndg l := by
            show List.countP _ _ = _
            rw [List.countP_append]
            simp [cl]
          rw [n1, n2] at e1
          rw [cX8_readRun_14]
          repeat (first | (conv => (lhs; arg 1; simp (disch := first | assumption | omega) only [tk_gI, tk_gL, tk_gR, tk_pI, tk_pL, rv_aI, rv_aL, rv_aR, rv_uI, rv_uL, rv_uB, rv_uZ, pu_ckI, pu_ckL, pu_lnI, pu_lnL, tk_rI, tk_rL, Option.bind_some, Option.map_some, rv_lt, tk_ix, rc_65 hB, h3, hT.2.2.1])); first | rw [Option.bind_some] | rw [bp_s] | rw [if_true] | rw [if_false] | rw [rv_lt_eq] | rw [if_pos (by omega)] | rw [if_neg (by omega)])
          rw [if_neg (by rw [n_le (by omega) (by omega)]; omega)]
          repeat (first | (conv => (lhs; arg 1; simp (disch := first | assumption | omega) only [tk_gI, tk_gL, tk_gR, tk_pI, tk_pL, rv_aI, rv_aL, rv_aR, rv_uI, rv_uL, rv_uB, rv_uZ, pu_ckI, pu_ckL, pu_lnI, pu_lnL, tk_rI, tk_rL, Option.bind_some, Option.map_some, rv_lt, tk_ix, rc_65 hB, h3, ks, ko])); first | rw [Option.bind_some] | rw [bp_s] | rw [if_true] | rw [if_false] | rw [rv_lt_eq] | rw [if_pos (by omega)] | rw [if_neg (by omega)])
          rw [if_neg (show ¬ bI true = 0 by decide)]
          repeat (first | (conv => (lhs; arg 1; simp (disch := first | assumption | omega) only [tk_gI, tk_gL, tk_gR, tk_pI, tk_pL, rv_aI, rv_aL, rv_aR, rv_uI, rv_uL, rv_uB, rv_uZ, pu_ckI, pu_ckL, pu_lnI, pu_lnL, tk_rI, tk_rL, Option.bind_some, Option.map_some, rv_lt, tk_ix, rc_65 hB, h3, ks, kl])); first | rw [Option.bind_some] | rw [bp_s] | rw [if_true] | rw [if_false] | rw [rv_lt_eq] | rw [if_pos (by omega)] | rw [if_neg (by omega)])
          rw [if_neg (show ¬ bI true = 0 by decide)]
          rw [show nI (nlt l) + 1 = nI (nlt l + 1) by rw [z1, nI_add], ← e1, eC2]
          repeat (first | (conv => (lhs; arg 1; simp (disch := first | assumption | omega) only [tk_gI, tk_gL, tk_gR, tk_pI, tk_pL, rv_aI, rv_aL, rv_aR, rv_uI, rv_uL, rv_uB, rv_uZ, pu_ckI, pu_ckL, pu_lnI, pu_lnL, tk_rI, tk_rL, Option.bind_some, Option.map_some, rv_lt, tk_ix, rc_65 hB, h3, fnX11_longer])); first | rw [Option.bind_some] | rw [bp_s] | rw [if_true] | rw [if_false] | rw [rv_lt_eq] | rw [if_pos (by omega)] | rw [if_neg (by omega)])
          rw [cX8_readRun_92]
          have s3 : ∀ v, (rv_sL C 65 7 v).2.1 65 3 = nI p := fun v => h3
          repeat (first | (conv => (lhs; arg 1; simp (disch := first | assumption | omega) only [tk_gI, tk_gL, tk_gR, tk_pI, tk_pL, rv_aI, rv_aL, rv_aR, rv_uI, rv_uL, rv_uB, rv_uZ, pu_ckI, pu_ckL, pu_lnI, pu_lnL, tk_rI, tk_rL, Option.bind_some, Option.map_some, rv_lt, tk_ix, rc_65 hB, s3])); first | rw [Option.bind_some] | rw [bp_s] | rw [if_true] | rw [if_false] | rw [rv_lt_eq] | rw [if_pos (by omega)] | rw [if_neg (by omega)])
          rw [show nI p + 1 = nI (p + 1) by rw [z1, nI_add]]
        · rw [k3, er, List.length_cons]
          exact congrArg nI (by omega)
    · have cf : tq_rn (b p) = false := by
        cases h : tq_rn (b p)
        · rfl
        · exact absurd h c
      have er : tq_run b p (r + 1) = [] := by rw [tq_run, if_neg c]
      rw [er, List.append_nil] at h1 ⊢
      obtain ⟨C', e1, f1, g3, g5, g⟩ := k_runEnd (n := n) hn hB h1 (by omega) hr hI
      rw [cf] at ko
      refine ⟨C', ?_, f1, by rw [g3, h3]; rfl, g5, g⟩
      rw [cX8_readRun_14]
      repeat (first | (conv => (lhs; arg 1; simp (disch := first | assumption | omega) only [tk_gI, tk_gL, tk_gR, tk_pI, tk_pL, rv_aI, rv_aL, rv_aR, rv_uI, rv_uL, rv_uB, rv_uZ, pu_ckI, pu_ckL, pu_lnI, pu_lnL, tk_rI, tk_rL, Option.bind_some, Option.map_some, rv_lt, tk_ix, rc_65 hB, h3, hT.2.2.1])); first | rw [Option.bind_some] | rw [bp_s] | rw [if_true] | rw [if_false] | rw [rv_lt_eq] | rw [if_pos (by omega)] | rw [if_neg (by omega)])
      rw [if_neg (by rw [n_le (by omega) (by omega)]; omega)]
      repeat (first | (conv => (lhs; arg 1; simp (disch := first | assumption | omega) only [tk_gI, tk_gL, tk_gR, tk_pI, tk_pL, rv_aI, rv_aL, rv_aR, rv_uI, rv_uL, rv_uB, rv_uZ, pu_ckI, pu_ckL, pu_lnI, pu_lnL, tk_rI, tk_rL, Option.bind_some, Option.map_some, rv_lt, tk_ix, rc_65 hB, h3, ks, ko])); first | rw [Option.bind_some] | rw [bp_s] | rw [if_true] | rw [if_false] | rw [rv_lt_eq] | rw [if_pos (by omega)] | rw [if_neg (by omega)])
      rw [if_pos (show bI false = 0 from rfl)]
      exact e1
theorem k_next84 (hn : 1000 ≤ n) {q : Nat} (hB : rv_B C) (hT : TXC C b L M) (h3 : C.2.1 65 3 = nI q) (hq : q ≤ L) (h5 : C.2.1 65 5 = nI q) : ∃ C', cX8_next_84 n C 65 = some C' ∧ rvf DT C C' ∧ KC C' (if L ≤ q then (q, q, 0, 0, []) else if tq_rn (b q) = true then (q, q + (tq_run b q (L - q)).length, tq_kd (tq_run b q (L - q)), tq_dec (tq_run b q (L - q)), (tq_run b q (L - q)).map (fun x => x - 96)) else (q, q + 1, if tq_mk (b q) = true then b q else 1, 0, [])) := by
  have hL := hT.1
  by_cases c1 : L ≤ q
  · rw [if_pos c1]
    refine ⟨rv_sI C 65 4 (nI 0), ?_, (rvf.sI C 65 4 _).mono rfl, ?_⟩
    · rw [cX8_next_84]
      repeat (first | (conv => (lhs; arg 1; simp (disch := first | assumption | omega) only [tk_gI, tk_gL, tk_gR, tk_pI, tk_pL, rv_aI, rv_aL, rv_aR, rv_uI, rv_uL, rv_uB, rv_uZ, pu_ckI, pu_ckL, pu_lnI, pu_lnL, tk_rI, tk_rL, Option.bind_some, Option.map_some, rv_lt, tk_ix, rc_65 hB, h3, hT.2.2.1])); first | rw [Option.bind_some] | rw [bp_s] | rw [if_true] | rw [if_false] | rw [rv_lt_eq] | rw [if_pos (by omega)] | rw [if_neg (by omega)])
      rw [if_neg (by rw [n_lt (by omega) (by omega)]; omega)]
      repeat (first | (conv => (lhs; arg 1; simp (disch := first | assumption | omega) only [tk_gI, tk_gL, tk_gR, tk_pI, tk_pL, rv_aI, rv_aL, rv_aR, rv_uI, rv_uL, rv_uB, rv_uZ, pu_ckI, pu_ckL, pu_lnI, pu_lnL, tk_rI, tk_rL, Option.bind_some, Option.map_some, rv_lt, tk_ix, z0, z1, z2, z3, z4, z5, z6, z7, z8, z9, z10, z11, z12, z13, z15, z16, z17, z18, z20, z21, z23, z24, z25, z31, z32, z39, z40, z41, z46, z48, z50, z57, z59, z60, z61, z62, z63, z64, z97, z98, z99, z100, z101, z102, z103, z104, z105, z106, z107, z108, z109, z110, z111, z112, z113, z114, z115, z116, z117, z118, z119, z120, z121, z122, z128, z132, z200, z240, z255, z372, z390625, z400, z420, z421, z422, z662, z900, z940, z999, z1000, z1024, z2000, z5860, z10000, z12345, z15625, z266240, z1048575, z1064960, z1103515245, z_m1, rc_65 hB])); first | rw [Option.bind_some] | rw [bp_s] | rw [if_true] | rw [if_false] | rw [rv_lt_eq] | rw [if_pos (by omega)] | rw [if_neg (by omega)])
    · exact ⟨(rv_sI_k _ _ (by decide) _).trans h3, (rv_sI_k _ _ (by decide) _).trans h5, rv_sI_eq _ _ _ _, fun h => absurd (show 0 = 3 from h) (by decide), fun h => absurd (show 0 = 2 from h) (by decide)⟩
  · rw [if_neg c1]
    have hb := (hT.2.2.2.2 q (by omega)).1
    have ks := k_signAt (n := n) hB hT (p := q) (by omega)
    have ko := k_isOfRun (n := n) (C := C) hb
    have km := k_isMark (n := n) (C := C) hb
    by_cases c2 : tq_rn (b q) = true
    · rw [if_pos c2]
      rw [c2] at ko
      obtain ⟨C2, eC2⟩ : ∃ C2, C2 = rv_sI (rv_sL C 65 7 (0 : Int64)) 65 6 (0 : Int32) := ⟨_, rfl⟩
      have f2 : rvf DT C C2 := by
        rw [eC2]
        exact ((rvf.sL C 65 7 _).mono rfl).tr ((rvf.sI _ 65 6 _).mono rfl)
      have hB2 := f2.B hB
      have g3 : C2.2.1 65 3 = nI q := by rw [eC2, rv_sI_k _ _ (by decide)]; exact h3
      have g5 : C2.2.1 65 5 = nI q := by rw [eC2, rv_sI_k _ _ (by decide)]; exact h5
      have hI2 : IVC C2 [] := by
        refine ⟨fun _ => ?_, fun _ => ?_⟩
        · rw [eC2]; exact rv_sL_eq _ _ _ _
        · rw [eC2, rv_sI_eq]; rfl
      have hl : 1 ≤ (tq_run b q (L - q)).length := by
        rw [show L - q = (L - q - 1) + 1 by omega]
        exact run_pos b c2
      obtain ⟨C', e1, f1, k3, k5, k4, k6, k7⟩ := k_runLoop (n := n) (b := b) (L := L) (M := M) (by omega) (L - q) n q [] C2 (by omega) (by omega) (by show 1 ≤ 0 + (L - q); omega) (Nat.zero_le _) hB2 (hT.f f2 rfl rfl rfl) g3 (fun x hx => by cases hx) hl hI2
      rw [List.nil_append] at k4 k6 k7
      refine ⟨C', ?_, f2.tr f1, k3, k5.trans g5, k4, k6, k7⟩
      have e1 : cX8_readRun_14 n n C2 65 (0 : Int32) (0 : Int32) = some C' := e1
      have e2 : fnX8_readRun n C 65 = some C' := by
        rw [fnX8_readRun]
        repeat (first | (conv => (lhs; arg 1; simp (disch := first | assumption | omega) only [tk_gI, tk_gL, tk_gR, tk_pI, tk_pL, rv_aI, rv_aL, rv_aR, rv_uI, rv_uL, rv_uB, rv_uZ, pu_ckI, pu_ckL, pu_lnI, pu_lnL, tk_rI, tk_rL, Option.bind_some, Option.map_some, rv_lt, tk_ix, rc_65 hB])); first | rw [Option.bind_some] | rw [bp_s] | rw [if_true] | rw [if_false] | rw [rv_lt_eq] | rw [if_pos (by omega)] | rw [if_neg (by omega)])
        rw [← eC2, e1]
      rw [cX8_next_84]
      repeat (first | (conv => (lhs; arg 1; simp (disch := first | assumption | omega) only [tk_gI, tk_gL, tk_gR, tk_pI, tk_pL, rv_aI, rv_aL, rv_aR, rv_uI, rv_uL, rv_uB, rv_uZ, pu_ckI, pu_ckL, pu_lnI, pu_lnL, tk_rI, tk_rL, Option.bind_some, Option.map_some, rv_lt, tk_ix, rc_65 hB, h3, hT.2.2.1])); first | rw [Option.bind_some] | rw [bp_s] | rw [if_true] | rw [if_false] | rw [rv_lt_eq] | rw [if_pos (by omega)] | rw [if_neg (by omega)])
      rw [if_pos (by rw [n_lt (by omega) (by omega)]; omega)]
      repeat (first | (conv => (lhs; arg 1; simp (disch := first | assumption | omega) only [tk_gI, tk_gL, tk_gR, tk_pI, tk_pL, rv_aI, rv_aL, rv_aR, rv_uI, rv_uL, rv_uB, rv_uZ, pu_ckI, pu_ckL, pu_lnI, pu_lnL, tk_rI, tk_rL, Option.bind_some, Option.map_some, rv_lt, tk_ix, rc_65 hB, h3, ks, ko])); first | rw [Option.bind_some] | rw [bp_s] | rw [if_true] | rw [if_false] | rw [rv_lt_eq] | rw [if_pos (by omega)] | rw [if_neg (by omega)])
      rw [if_neg (show ¬ bI true = 0 by decide), rc_65 hB, Option.bind_some, e2]
      rfl
    · have cf : tq_rn (b q) = false := by
        cases h : tq_rn (b q)
        · rfl
        · exact absurd h c2
      rw [if_neg c2]
      rw [cf] at ko
      have fin : ∀ v : Nat, v < 256 → v = (if tq_mk (b q) = true then b q else 1) → ∃ C', cX8_next_151 n C 65 65 (nI v) = some C' ∧ rvf DT C C' ∧ KC C' (q, q + 1, if tq_mk (b q) = true then b q else 1, 0, []) := fun v hv e => by
        refine ⟨rv_sI (rv_sI C 65 4 (nI v)) 65 3 (nI (q + 1)), ?_, ((rvf.sI C 65 4 _).mono rfl).tr ((rvf.sI _ 65 3 _).mono rfl), ?_⟩
        · rw [cX8_next_151]
          have s3 : (rv_sI C 65 4 (nI v)).2.1 65 3 = nI q := (rv_sI_k _ _ (by decide) _).trans h3
          repeat (first | (conv => (lhs; arg 1; simp (disch := first | assumption | omega) only [tk_gI, tk_gL, tk_gR, tk_pI, tk_pL, rv_aI, rv_aL, rv_aR, rv_uI, rv_uL, rv_uB, rv_uZ, pu_ckI, pu_ckL, pu_lnI, pu_lnL, tk_rI, tk_rL, Option.bind_some, Option.map_some, rv_lt, tk_ix, rc_65 hB, s3])); first | rw [Option.bind_some] | rw [bp_s] | rw [if_true] | rw [if_false] | rw [rv_lt_eq] | rw [if_pos (by omega)] | rw [if_neg (by omega)])
          rw [z1, nI_add]
        · refine ⟨rv_sI_eq _ _ _ _, ?_, ?_, fun h => ?_, fun h => ?_⟩
          · rw [rv_sI_k _ _ (by decide), rv_sI_k _ _ (by decide)]; exact h5
          · rw [rv_sI_k _ _ (by decide), rv_sI_eq, e]
          · have h : (if tq_mk (b q) = true then b q else 1) = 3 := h
            split at h
            · rename_i h2; have := tq_mk_c h2; omega
            · exact absurd h (by decide)
          · have h : (if tq_mk (b q) = true then b q else 1) = 2 := h
            split at h
            · rename_i h2; have := tq_mk_c h2; omega
            · exact absurd h (by decide)
      by_cases c3 : tq_mk (b q) = true
      · obtain ⟨C', e1, g⟩ := fin (b q) hb (by rw [if_pos c3])
        rw [c3] at km
        refine ⟨C', ?_, g⟩
        rw [cX8_next_84]
        repeat (first | (conv => (lhs; arg 1; simp (disch := first | assumption | omega) only [tk_gI, tk_gL, tk_gR, tk_pI, tk_pL, rv_aI, rv_aL, rv_aR, rv_uI, rv_uL, rv_uB, rv_uZ, pu_ckI, pu_ckL, pu_lnI, pu_lnL, tk_rI, tk_rL, Option.bind_some, Option.map_some, rv_lt, tk_ix, rc_65 hB, h3, hT.2.2.1])); first | rw [Option.bind_some] | rw [bp_s] | rw [if_true] | rw [if_false] | rw [rv_lt_eq] | rw [if_pos (by omega)] | rw [if_neg (by omega)])
        rw [if_pos (by rw [n_lt (by omega) (by omega)]; omega)]
        repeat (first | (conv => (lhs; arg 1; simp (disch := first | assumption | omega) only [tk_gI, tk_gL, tk_gR, tk_pI, tk_pL, rv_aI, rv_aL, rv_aR, rv_uI, rv_uL, rv_uB, rv_uZ, pu_ckI, pu_ckL, pu_lnI, pu_lnL, tk_rI, tk_rL, Option.bind_some, Option.map_some, rv_lt, tk_ix, rc_65 hB, h3, ks, ko])); first | rw [Option.bind_some] | rw [bp_s] | rw [if_true] | rw [if_false] | rw [rv_lt_eq] | rw [if_pos (by omega)] | rw [if_neg (by omega)])
        rw [if_pos (show bI false = 0 from rfl)]
        repeat (first | (conv => (lhs; arg 1; simp (disch := first | assumption | omega) only [tk_gI, tk_gL, tk_gR, tk_pI, tk_pL, rv_aI, rv_aL, rv_aR, rv_uI, rv_uL, rv_uB, rv_uZ, pu_ckI, pu_ckL, pu_lnI, pu_lnL, tk_rI, tk_rL, Option.bind_some, Option.map_some, rv_lt, tk_ix, rc_65 hB, h3, ks, km])); first | rw [Option.bind_some] | rw [bp_s] | rw [if_true] | rw [if_false] | rw [rv_lt_eq] | rw [if_pos (by omega)] | rw [if_neg (by omega)])
        rw [if_neg (show ¬ bI true = 0 by decide)]
        repeat (first | (conv => (lhs; arg 1; simp (disch := first | assumption | omega) only [tk_gI, tk_gL, tk_gR, tk_pI, tk_pL, rv_aI, rv_aL, rv_aR, rv_uI, rv_uL, rv_uB, rv_uZ, pu_ckI, pu_ckL, pu_lnI, pu_lnL, tk_rI, tk_rL, Option.bind_some, Option.map_some, rv_lt, tk_ix, rc_65 hB, h3, ks])); first | rw [Option.bind_some] | rw [bp_s] | rw [if_true] | rw [if_false] | rw [rv_lt_eq] | rw [if_pos (by omega)] | rw [if_neg (by omega)])
        exact e1
      · have cf3 : tq_mk (b q) = false := by
          cases h : tq_mk (b q)
          · rfl
          · exact absurd h c3
        obtain ⟨C', e1, g⟩ := fin 1 (by decide) (by rw [if_neg c3])
        rw [cf3] at km
        refine ⟨C', ?_, g⟩
        rw [cX8_next_84]
        repeat (first | (conv => (lhs; arg 1; simp (disch := first | assumption | omega) only [tk_gI, tk_gL, tk_gR, tk_pI, tk_pL, rv_aI, rv_aL, rv_aR, rv_uI, rv_uL, rv_uB, rv_uZ, pu_ckI, pu_ckL, pu_lnI, pu_lnL, tk_rI, tk_rL, Option.bind_some, Option.map_some, rv_lt, tk_ix, rc_65 hB, h3, hT.2.2.1])); first | rw [Option.bind_some] | rw [bp_s] | rw [if_true] | rw [if_false] | rw [rv_lt_eq] | rw [if_pos (by omega)] | rw [if_neg (by omega)])
        rw [if_pos (by rw [n_lt (by omega) (by omega)]; omega)]
        repeat (first | (conv => (lhs; arg 1; simp (disch := first | assumption | omega) only [tk_gI, tk_gL, tk_gR, tk_pI, tk_pL, rv_aI, rv_aL, rv_aR, rv_uI, rv_uL, rv_uB, rv_uZ, pu_ckI, pu_ckL, pu_lnI, pu_lnL, tk_rI, tk_rL, Option.bind_some, Option.map_some, rv_lt, tk_ix, rc_65 hB, h3, ks, ko])); first | rw [Option.bind_some] | rw [bp_s] | rw [if_true] | rw [if_false] | rw [rv_lt_eq] | rw [if_pos (by omega)] | rw [if_neg (by omega)])
        rw [if_pos (show bI false = 0 from rfl)]
        repeat (first | (conv => (lhs; arg 1; simp (disch := first | assumption | omega) only [tk_gI, tk_gL, tk_gR, tk_pI, tk_pL, rv_aI, rv_aL, rv_aR, rv_uI, rv_uL, rv_uB, rv_uZ, pu_ckI, pu_ckL, pu_lnI, pu_lnL, tk_rI, tk_rL, Option.bind_some, Option.map_some, rv_lt, tk_ix, rc_65 hB, h3, ks, km])); first | rw [Option.bind_some] | rw [bp_s] | rw [if_true] | rw [if_false] | rw [rv_lt_eq] | rw [if_pos (by omega)] | rw [if_neg (by omega)])
        rw [if_pos (show bI false = 0 from rfl), z1]
        exact e1
theorem kt_next (hn : 1000 ≤ n) {p : Nat} (hB : rv_B C) (hT : TXC C b L M) (h3 : C.2.1 65 3 = nI p) (hp : p ≤ L) : ∃ C', fnX8_next n C 65 = some C' ∧ rvf DT C C' ∧ KC C' (tq_nx b L M p) := by
  have hL := hT.1
  have hM := hT.2.1
  have e38 : ∀ q (C : rvS), q ≤ L → rv_B C → TXC C b L M → C.2.1 65 3 = nI q → ∃ C', cX8_next_38 n C 65 = some C' ∧ rvf DT C C' ∧ KC C' (if M < L ∧ M ≤ q then (M, q, 1, 0, []) else if L ≤ q then (q, q, 0, 0, []) else if tq_rn (b q) = true then (q, q + (tq_run b q (L - q)).length, tq_kd (tq_run b q (L - q)), tq_dec (tq_run b q (L - q)), (tq_run b q (L - q)).map (fun x => x - 96)) else (q, q + 1, if tq_mk (b q) = true then b q else 1, 0, [])) := fun q C hq hB hT h3 => by
    obtain ⟨C2, eC2⟩ : ∃ C2, C2 = rv_sI C 65 5 (nI q) := ⟨_, rfl⟩
    have f2 : rvf DT C C2 := by
      rw [eC2]
      exact (rvf.sI C 65 5 _).mono rfl
    have hB2 := f2.B hB
    have hT2 := hT.f f2 rfl rfl rfl
    have g3 : C2.2.1 65 3 = nI q := by rw [eC2, rv_sI_k _ _ (by decide)]; exact h3
    have g5 : C2.2.1 65 5 = nI q := by rw [eC2, rv_sI_eq]
    have top : ∀ X, (if nI L ≤ nI M then cX8_next_84 n C2 65 else if nI q < nI M then cX8_next_84 n C2 65 else some (rv_sI (rv_sI C2 65 5 (nI M)) 65 4 (nI 1))) = X → cX8_next_38 n C 65 = X := fun X hX => by
      rw [cX8_next_38]
      repeat (first | (conv => (lhs; arg 1; simp (disch := first | assumption | omega) only [tk_gI, tk_gL, tk_gR, tk_pI, tk_pL, rv_aI, rv_aL, rv_aR, rv_uI, rv_uL, rv_uB, rv_uZ, pu_ckI, pu_ckL, pu_lnI, pu_lnL, tk_rI, tk_rL, Option.bind_some, Option.map_some, rv_lt, tk_ix, rc_65 hB, h3])); first | rw [Option.bind_some] | rw [bp_s] | rw [if_true] | rw [if_false] | rw [rv_lt_eq] | rw [if_pos (by omega)] | rw [if_neg (by omega)])
      rw [← eC2, hT2.2.2.1, hT2.2.2.2.1, ← hX]
      by_cases c1 : nI L ≤ nI M
      · rw [if_pos c1, if_pos c1]
      · rw [if_neg c1, if_neg c1]
        repeat (first | (conv => (lhs; arg 1; simp (disch := first | assumption | omega) only [tk_gI, tk_gL, tk_gR, tk_pI, tk_pL, rv_aI, rv_aL, rv_aR, rv_uI, rv_uL, rv_uB, rv_uZ, pu_ckI, pu_ckL, pu_lnI, pu_lnL, tk_rI, tk_rL, Option.bind_some, Option.map_some, rv_lt, tk_ix, rc_65 hB2, g3, hT2.2.2.2.1])); first | rw [Option.bind_some] | rw [bp_s] | rw [if_true] | rw [if_false] | rw [rv_lt_eq] | rw [if_pos (by omega)] | rw [if_neg (by omega)])
        by_cases c2 : nI q < nI M
        · rw [if_pos c2, if_pos c2]
        · rw [if_neg c2, if_neg c2]
          repeat (first | (conv => (lhs; arg 1; simp (disch := first | assumption | omega) only [tk_gI, tk_gL, tk_gR, tk_pI, tk_pL, rv_aI, rv_aL, rv_aR, rv_uI, rv_uL, rv_uB, rv_uZ, pu_ckI, pu_ckL, pu_lnI, pu_lnL, tk_rI, tk_rL, Option.bind_some, Option.map_some, rv_lt, tk_ix, rc_65 hB2, g3, hT2.2.2.2.1])); first | rw [Option.bind_some] | rw [bp_s] | rw [if_true] | rw [if_false] | rw [rv_lt_eq] | rw [if_pos (by omega)] | rw [if_neg (by omega)])
          rw [z1]
    obtain ⟨C', e1, f1, k1⟩ := k_next84 (n := n) hn hB2 hT2 g3 hq g5
    by_cases c : M < L ∧ M ≤ q
    · rw [if_pos c]
      refine ⟨rv_sI (rv_sI C2 65 5 (nI M)) 65 4 (nI 1), top _ ?_, (f2.tr ((rvf.sI C2 65 5 _).mono rfl)).tr ((rvf.sI _ 65 4 _).mono rfl), ?_⟩
      · rw [if_neg (by rw [n_le (by omega) (by omega)]; omega), if_neg (by rw [n_lt (by omega) (by omega)]; omega)]
      · refine ⟨?_, ?_, rv_sI_eq _ _ _ _, fun h => absurd (show 1 = 3 from h) (by decide), fun h => absurd (show 1 = 2 from h) (by decide)⟩
        · rw [rv_sI_k _ _ (by decide), rv_sI_k _ _ (by decide)]; exact g3
        · rw [rv_sI_k _ _ (by decide), rv_sI_eq]
    · rw [if_neg c]
      refine ⟨C', top _ ?_, f2.tr f1, k1⟩
      by_cases c1 : L ≤ M
      · rw [if_pos (by rw [n_le (by omega) (by omega)]; exact c1)]; exact e1
      · rw [if_neg (by rw [n_le (by omega) (by omega)]; exact c1), if_pos (by rw [n_lt (by omega) (by omega)]; omega)]; exact e1
  have key : ∀ r p q (C : rvS), p + r = L → r < q → rv_B C → TXC C b L M → C.2.1 65 3 = nI p → ∃ C', cX8_next_0 n q C 65 = some C' ∧ rvf DT C C' ∧ KC C' (if M < L ∧ M ≤ tq_skp b p r then (M, tq_skp b p r, 1, 0, []) else if L ≤ tq_skp b p r then (tq_skp b p r, tq_skp b p r, 0, 0, []) else if tq_rn (b (tq_skp b p r)) = true then (tq_skp b p r, tq_skp b p r + (tq_run b (tq_skp b p r) (L - tq_skp b p r)).length, tq_kd (tq_run b (tq_skp b p r) (L - tq_skp b p r)), tq_dec (tq_run b (tq_skp b p r) (L - tq_skp b p r)), (tq_run b (tq_skp b p r) (L - tq_skp b p r)).map (fun x => x - 96)) else (tq_skp b p r, tq_skp b p r + 1, if tq_mk (b (tq_skp b p r)) = true then b (tq_skp b p r) else 1, 0, [])) := by
    intro r
    induction r with
    | zero =>
      intro p q C hp hq hB hT h3
      obtain ⟨q, rfl⟩ : ∃ q', q = q' + 1 := ⟨q - 1, by omega⟩
      have es : tq_skp b p 0 = p := rfl
      rw [es]
      obtain ⟨C', e1, g⟩ := e38 p C (by omega) hB hT h3
      refine ⟨C', ?_, g⟩
      rw [cX8_next_0]
      repeat (first | (conv => (lhs; arg 1; simp (disch := first | assumption | omega) only [tk_gI, tk_gL, tk_gR, tk_pI, tk_pL, rv_aI, rv_aL, rv_aR, rv_uI, rv_uL, rv_uB, rv_uZ, pu_ckI, pu_ckL, pu_lnI, pu_lnL, tk_rI, tk_rL, Option.bind_some, Option.map_some, rv_lt, tk_ix, rc_65 hB, h3, hT.2.2.1])); first | rw [Option.bind_some] | rw [bp_s] | rw [if_true] | rw [if_false] | rw [rv_lt_eq] | rw [if_pos (by omega)] | rw [if_neg (by omega)])
      rw [if_pos (by rw [n_le (by omega) (by omega)]; omega)]
      exact e1
    | succ r ih =>
      intro p q C hp hq hB hT h3
      obtain ⟨q, rfl⟩ : ∃ q', q = q' + 1 := ⟨q - 1, by omega⟩
      have hb := (hT.2.2.2.2 p (by omega)).1
      have ks := k_signAt (n := n) hB hT (p := p) (by omega)
      have kb := k_isBlank (n := n) (C := C) hb
      have top : ∀ X, (if bI (tq_bk (b p)) = 0 then cX8_next_38 n C 65 else cX8_next_0 n q (rv_sI C 65 3 (nI (p + 1))) 65) = X → cX8_next_0 n (q + 1) C 65 = X := fun X hX => by
        rw [cX8_next_0]
        repeat (first | (conv => (lhs; arg 1; simp (disch := first | assumption | omega) only [tk_gI, tk_gL, tk_gR, tk_pI, tk_pL, rv_aI, rv_aL, rv_aR, rv_uI, rv_uL, rv_uB, rv_uZ, pu_ckI, pu_ckL, pu_lnI, pu_lnL, tk_rI, tk_rL, Option.bind_some, Option.map_some, rv_lt, tk_ix, rc_65 hB, h3, hT.2.2.1])); first | rw [Option.bind_some] | rw [bp_s] | rw [if_true] | rw [if_false] | rw [rv_lt_eq] | rw [if_pos (by omega)] | rw [if_neg (by omega)])
        rw [if_neg (by rw [n_le (by omega) (by omega)]; omega)]
        repeat (first | (conv => (lhs; arg 1; simp (disch := first | assumption | omega) only [tk_gI, tk_gL, tk_gR, tk_pI, tk_pL, rv_aI, rv_aL, rv_aR, rv_uI, rv_uL, rv_uB, rv_uZ, pu_ckI, pu_ckL, pu_lnI, pu_lnL, tk_rI, tk_rL, Option.bind_some, Option.map_some, rv_lt, tk_ix, rc_65 hB, h3, ks, kb])); first | rw [Option.bind_some] | rw [bp_s] | rw [if_true] | rw [if_false] | rw [rv_lt_eq] | rw [if_pos (by omega)] | rw [if_neg (by omega)])
        rw [← hX]
        split
        · rfl
        · repeat (first | (conv => (lhs; arg 1; simp (disch := first | assumption | omega) only [tk_gI, tk_gL, tk_gR, tk_pI, tk_pL, rv_aI, rv_aL, rv_aR, rv_uI, rv_uL, rv_uB, rv_uZ, pu_ckI, pu_ckL, pu_lnI, pu_lnL, tk_rI, tk_rL, Option.bind_some, Option.map_some, rv_lt, tk_ix, rc_65 hB, h3])); first | rw [Option.bind_some] | rw [bp_s] | rw [if_true] | rw [if_false] | rw [rv_lt_eq] | rw [if_pos (by omega)] | rw [if_neg (by omega)])
          rw [z1, nI_add]
      by_cases c : tq_bk (b p) = true
      · have es : tq_skp b p (r + 1) = tq_skp b (p + 1) r := by rw [tq_skp, if_pos c]
        rw [es]
        obtain ⟨C2, eC2⟩ : ∃ C2, C2 = rv_sI C 65 3 (nI (p + 1)) := ⟨_, rfl⟩
        have f2 : rvf DT C C2 := by
          rw [eC2]
          exact (rvf.sI C 65 3 _).mono rfl
        obtain ⟨C', e1, f1, k1⟩ := ih (p + 1) q C2 (by omega) (by omega) (f2.B hB) (hT.f f2 rfl rfl rfl) (by rw [eC2, rv_sI_eq])
        refine ⟨C', top _ ?_, f2.tr f1, k1⟩
        rw [c, if_neg (show ¬ bI true = 0 by decide), ← eC2, e1]
      · have es : tq_skp b p (r + 1) = p := by rw [tq_skp, if_neg c]
        rw [es]
        have cf : tq_bk (b p) = false := by
          cases h : tq_bk (b p)
          · rfl
          · exact absurd h c
        obtain ⟨C', e1, g⟩ := e38 p C (by omega) hB hT h3
        refine ⟨C', top _ ?_, g⟩
        rw [cf, if_pos (show bI false = 0 from rfl), e1]
  exact key (L - p) p n C (by omega) (by omega) hB hT h3
end
