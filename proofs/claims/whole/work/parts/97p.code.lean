/-! THE SEARCH: the class's close numbers; its beginning -/
section
variable {n : Nat} {S : rvS} {m : Nat → Nat}
/-- how many close numbers there are, with W people -/
abbrev kMs (W : Nat) : Nat := W * ((W + 1) * ((W + 1) * (W + 1)))
def k3s (W : Nat) (l : List Nat) : Nat := ((c25 l 2 * (W + 1) + c25 l 1) * (W + 1) + c25 l 0) * W
def kcs (W : Nat) (s : St) : Nat := k3s W s.2 + s.1
theorem c25_le {l : List Nat} (hl : okl m l) (i : Nat) : c25 l i < vW m + 1 := by
  unfold c25
  cases h : l[i]? with
  | none => show 0 < vW m + 1; omega
  | some x =>
    have := hl.2 x (List.mem_of_getElem? h)
    show x + 1 < vW m + 1
    omega
theorem kM_le {W : Nat} (h : W ≤ 24) : kMs W ≤ 375000 := Nat.mul_le_mul h (Nat.mul_le_mul (by omega) (Nat.mul_le_mul (by omega) (by omega : W + 1 ≤ 25)) : (W + 1) * ((W + 1) * (W + 1)) ≤ 25 * (25 * 25))
theorem k3_lt {l : List Nat} (hl : okl m l) : k3s (vW m) l + vW m ≤ kMs (vW m) := by
  have h0 := c25_le hl 0
  have h1 := c25_le hl 1
  have h2 := c25_le hl 2
  obtain ⟨A, eA⟩ : ∃ A, A = vW m + 1 := ⟨_, rfl⟩
  have e1 : c25 l 2 * A + c25 l 1 + 1 ≤ A * A := by
    have : (c25 l 2 + 1) * A ≤ A * A := Nat.mul_le_mul_right A (by omega)
    rw [Nat.add_mul] at this
    omega
  have e2 : (c25 l 2 * A + c25 l 1) * A + c25 l 0 + 1 ≤ A * A * A := by
    have : (c25 l 2 * A + c25 l 1 + 1) * A ≤ A * A * A := Nat.mul_le_mul_right A e1
    rw [Nat.add_mul] at this
    omega
  have e3 : ((c25 l 2 * A + c25 l 1) * A + c25 l 0 + 1) * vW m ≤ A * A * A * vW m := Nat.mul_le_mul_right _ e2
  rw [Nat.add_mul, Nat.one_mul] at e3
  rw [k3s, kMs, ← eA, Nat.mul_comm (vW m), ← Nat.mul_assoc A A A]
  exact e3
theorem kc_lt {s : St} (hs : okS m s) : kcs (vW m) s < kMs (vW m) := by
  have := k3_lt hs.2
  have h1 := hs.1
  unfold kcs
  omega
theorem divmod2 {a b a' b' A : Nat} (hb : b < A) (hb' : b' < A) (e : a * A + b = a' * A + b') : a = a' ∧ b = b' := by
  have e1 : (a * A + b) / A = (a' * A + b') / A := by rw [e]
  have e2 : (a * A + b) % A = (a' * A + b') % A := by rw [e]
  rw [Nat.mul_comm a, Nat.mul_comm a', Nat.mul_add_div (by omega), Nat.mul_add_div (by omega), Nat.div_eq_of_lt hb, Nat.div_eq_of_lt hb'] at e1
  rw [Nat.mul_comm a, Nat.mul_comm a', Nat.mul_add_mod, Nat.mul_add_mod, Nat.mod_eq_of_lt hb, Nat.mod_eq_of_lt hb'] at e2
  exact ⟨by omega, e2⟩
theorem kc_inj {s s' : St} (hs : okS m s) (hs' : okS m s') (e : kcs (vW m) s = kcs (vW m) s') : s = s' := by
  obtain ⟨e1, e2⟩ := divmod2 hs.1 hs'.1 e
  obtain ⟨e3, e4⟩ := divmod2 (c25_le hs.2 0) (c25_le hs'.2 0) e1
  obtain ⟨e5, e6⟩ := divmod2 (c25_le hs.2 1) (c25_le hs'.2 1) e3
  refine Prod.ext e2 (c25_inj hs.2.1 hs'.2.1 fun i hi => ?_)
  have : i = 0 ∨ i = 1 ∨ i = 2 := by omega
  rcases this with rfl | rfl | rfl
  · exact e4
  · exact e6
  · exact e5
theorem rb_c25 (hp : okp m) {l : List Nat} (hl : okl m l) (i : Nat) : rb l / 32 ^ i % 32 = c25 l i := by
  have h24 := hp.1
  rw [rb_at i fun x hx => by have := hl.2 x hx; omega]
  rfl
theorem sB_c25 (hp : okp m) {o : Nat} (ho : o < vW m) {l : List Nat} (hl : okl m l) : sB o l / 2 ^ 5 % 32 = c25 l 0 ∧ sB o l / 2 ^ 10 % 32 = c25 l 1 ∧ sB o l / 2 ^ 15 % 32 = c25 l 2 := by
  have h := sB_div hp ho l
  have h0 := rb_c25 hp hl 0
  have h1 := rb_c25 hp hl 1
  have h2 := rb_c25 hp hl 2
  have e0 : rb l / 32 ^ 0 = rb l := Nat.div_one _
  have e1 : (32 : Nat) ^ 1 = 32 := rfl
  have e2 : (32 : Nat) ^ 2 = 1024 := rfl
  have p5 : (2 : Nat) ^ 5 = 32 := rfl
  have p10 : (2 : Nat) ^ 10 = 1024 := rfl
  have p15 : (2 : Nat) ^ 15 = 32768 := rfl
  rw [e0] at h0
  rw [e1] at h1
  rw [e2] at h2
  rw [p5] at h ⊢
  rw [p10, p15]
  refine ⟨by rw [h]; exact h0, ?_, ?_⟩
  · rw [show 1024 = 32 * 32 by decide, ← Nat.div_div_eq_div_mul, h]; exact h1
  · rw [show 32768 = 32 * 1024 by decide, ← Nat.div_div_eq_div_mul, h]; exact h2
theorem k_codeOf (hn : 10 ≤ n) (hB : rv_B S) (hp : okp m) (h3 : S.2.1 111 3 = nI (vW m)) {o : Nat} (ho : o < vW m) {l : List Nat} (hl : okl m l) : fnX2_codeOf n S 111 (nI (sB o l)) = some (nI (kcs (vW m) (o, l))) := by
  have h24 := hp.1
  have lt := sB_lt hp ho hl
  have kl := kc_lt (s := (o, l)) ⟨ho, hl⟩
  have kMs' := kM_le h24
  obtain ⟨s5, s10, s15⟩ := sB_c25 hp ho hl
  have st : ∀ (q j y : Nat) (v : Nat), 0 < j → j < 32 → sB o l / 2 ^ j % 32 = y → cX2_codeOf_5 n S (q + 1) 111 (nI (sB o l)) (nI v) (nI j) = cX2_codeOf_5 n S q 111 (nI (sB o l)) (nI (v * (vW m + 1) + y)) (nI j + (-5)) := fun q j y v hj hj2 hy => by
    have c1 : ¬ nI j ≤ nI 0 := by rw [n_le (by omega) (by decide)]; omega
    have c2 := n_ush (x := sB o l) (j := j) (by omega) hj2
    rw [cX2_codeOf_5, z0, if_neg c1, tk_gI, rc_111 hB, Option.map_some, Option.bind_some, h3, rv_lt, z31, c2, n_and31, hy, z1, nI_add, z_mul, nI_add, rv_lt]
  have fin : ∀ (q v : Nat), cX2_codeOf_5 n S (q + 1) 111 (nI (sB o l)) (nI v) (nI 0) = some (nI (v * vW m + o)) := fun q v => by
    rw [cX2_codeOf_5, z0, if_pos (by rw [n_le (by decide) (by decide)]; omega), cX2_codeOf_31, tk_gI, rc_111 hB, Option.map_some, Option.bind_some, h3, k_ownerOf hp ho, Option.bind_some, z_mul, nI_add]
  rw [fnX2_codeOf, z15, z0]
  refine un 4 (F := fun z => cX2_codeOf_5 n S z 111 (nI (sB o l)) (nI 0) (nI 15)) (fun q => ?_) (by omega)
  show cX2_codeOf_5 n S (q + 3 + 1) 111 (nI (sB o l)) (nI 0) (nI 15) = _
  rw [st _ 15 _ _ (by decide) (by decide) s15, show nI 15 + (-5) = nI 10 by decide, st _ 10 _ _ (by decide) (by decide) s10, show nI 10 + (-5) = nI 5 by decide, st _ 5 _ _ (by decide) (by decide) s5, show nI 5 + (-5) = nI 0 by decide, fin, Nat.zero_mul, Nat.zero_add]
  rfl
theorem k_begin (hn : 6000 ≤ n) (hB : rv_B S) {v : Nat} (hv : vb v) (hR : CR S v m) (hk : okm m) : ∃ S', fnX2_begin n S 111 v = some S' ∧ rvf [111003, 112, 113] S S' ∧ S'.2.1 111 3 = nI (vW m) ∧ SN S' 112 (kMs (vW m)) (fun _ => false) ∧ SN S' 113 (kMs (vW m)) (fun _ => false) := by
  have hVS := VS_of hB hv; have hFS := FS_of hB hv.f; have hPS := PS_of hB hv.p; obtain ⟨hF, hP, hD⟩ := hR; obtain ⟨hp, hc, hd⟩ := hk
  have h24 := hp.1
  have kMs' := kM_le h24
  obtain ⟨S1, eS1⟩ : ∃ S1, S1 = rv_sI S 111 3 (nI (vW m)) := ⟨_, rfl⟩
  have f1 : rvf [111003] S S1 := by rw [eS1]; exact rvf.sI S 111 3 _
  have hB1 := f1.B hB
  have g3 : S1.2.1 111 3 = nI (vW m) := by rw [eS1, rv_sI_eq]
  have r112 := rf_of hB1 (show (111, 0, 112) ∈ rv_rf0 by decide)
  have top : fnX2_begin n S 111 v = cX2_begin_44 n n S1 111 (nI (kMs (vW m) / 64 + 1)) (nI 0) := by
    have q : vW m * (vW m + 1) * (vW m + 1) * (vW m + 1) = kMs (vW m) := by rw [kMs, Nat.mul_assoc, Nat.mul_assoc]
    have nz := nz_ok (a := 64) (by decide) (by decide)
    have dv := pk_div (a := kMs (vW m)) (d := 64) (by omega) (by decide) (by decide)
    rw [fnX2_begin]
    repeat (first | (conv => (lhs; arg 1; simp (disch := first | assumption | omega) only [tk_gI, tk_gL, tk_gR, tk_pI, tk_pL, rv_aI, rv_aL, rv_aR, rv_uI, rv_uL, rv_uB, rv_uZ, pu_ckI, pu_ckL, pu_lnI, pu_lnL, tk_rI, tk_rL, Option.bind_some, Option.map_some, rv_lt, tk_ix, hVS, hFS, hF.1, rc_111 hB, ← eS1, rc_111 hB1, g3])); first | rw [Option.bind_some] | rw [bp_s] | rw [if_true] | rw [if_false] | rw [rv_lt_eq] | rw [if_pos (by omega)] | rw [if_neg (by omega)])
    rw [z64, nz, Option.bind_some, z1, nI_add, z_mul, z_mul, z_mul, q, dv, nI_add, z0]
  rw [top]
  have hw : kMs (vW m) / 64 + 1 ≤ 5860 := by omega
  obtain ⟨N, eN⟩ : ∃ N, N = kMs (vW m) / 64 + 1 := ⟨_, rfl⟩
  rw [← eN] at hw ⊢
  have key : ∃ S', cX2_begin_44 n n S1 111 (nI N) (nI 0) = some S' ∧ rvf [112, 113] S1 S' ∧ ∀ k, k < N → S'.2.2.1 112 k = lN 0 ∧ S'.2.2.1 113 k = lN 0 := by
    refine lp (F := fun q (x : rvS × Int32) => cX2_begin_44 n q x.1 111 (nI N) x.2) (fun i x => x.2 = nI i ∧ rvf [112, 113] S1 x.1 ∧ ∀ k, k < i → x.1.2.2.1 112 k = lN 0 ∧ x.1.2.2.1 113 k = lN 0) (fun o => ∃ S', o = some S' ∧ rvf [112, 113] S1 S' ∧ ∀ k, k < N → S'.2.2.1 112 k = lN 0 ∧ S'.2.2.1 113 k = lN 0) N (fun i x q hi hx => Or.inr ?_) (fun x q hx => ?_) (i := 0) (x := (S1, nI 0)) (q := n) (Nat.zero_le _) ⟨rfl, rvf.rf _ _, fun y hy => absurd hy (Nat.not_lt_zero y)⟩ (by omega)
    · obtain ⟨S2, x⟩ := x
      obtain ⟨rfl, f, g⟩ := hx
      have f : rvf [112, 113] S1 S2 := f
      have g : ∀ k, k < i → S2.2.2.1 112 k = lN 0 ∧ S2.2.2.1 113 k = lN 0 := g
      have hB2 := f.B hB1
      obtain ⟨S3, eS3⟩ : ∃ S3, S3 = rv_sL S2 112 i (lN 0) := ⟨_, rfl⟩
      have f3 : rvf [112, 113] S2 S3 := by rw [eS3]; exact (rvf.rf _ _).wL rfl rfl
      have hB3 := f3.B hB2
      obtain ⟨S4, eS4⟩ : ∃ S4, S4 = rv_sL S3 113 i (lN 0) := ⟨_, rfl⟩
      have f4 : rvf [112, 113] S3 S4 := by rw [eS4]; exact (rvf.rf _ _).wL rfl rfl
      refine ⟨(S4, nI (i + 1)), ?_, rfl, f.tr (f3.tr f4), fun k hk' => ?_⟩
      · show cX2_begin_44 n (q + 1) S2 111 (nI N) (nI i) = cX2_begin_44 n q S4 111 (nI N) (nI (i + 1))
        rw [cX2_begin_44, y0]
        repeat (first | (conv => (lhs; arg 1; simp (disch := first | assumption | omega) only [tk_gI, tk_gL, tk_gR, tk_pI, tk_pL, rv_aI, rv_aL, rv_aR, rv_uI, rv_uL, rv_uB, rv_uZ, pu_ckI, pu_ckL, pu_lnI, pu_lnL, tk_rI, tk_rL, Option.bind_some, Option.map_some, rv_lt, tk_ix, z0, z1, z2, z3, z4, z5, z6, z7, z8, z9, z10, z11, z12, z13, z15, z16, z17, z18, z20, z21, z23, z24, z25, z31, z32, z39, z40, z41, z46, z48, z50, z57, z59, z60, z61, z62, z63, z64, z97, z98, z99, z100, z101, z102, z103, z104, z105, z106, z107, z108, z109, z110, z111, z112, z113, z114, z115, z116, z117, z118, z119, z120, z121, z122, z128, z132, z200, z240, z255, z372, z390625, z400, z420, z421, z422, z662, z900, z940, z999, z1000, z1024, z2000, z5860, z10000, z12345, z15625, z266240, z1048575, z1064960, z1103515245, z_m1, n_le, n_lt, n_eq, n_bit0, n_bit1, n_sbit0, n_shl, z_ltM, z_Mlt, z_leM, z_Mle, z_eqM, z_Meq, bI0, bI1, bI_01, bI_01t, bI_10, bI_10f, if_true, if_false, eq_self, reduceCtorEq, rc_111 hB2, rf_of hB2 (show (111, 0, 112) ∈ rv_rf0 by decide), rn_112 hB2, ← eS3, rc_111 hB3, rf_of hB3 (show (111, 1, 113) ∈ rv_rf0 by decide), rn_113 hB3, ← eS4])); first | rw [Option.bind_some] | rw [bp_s] | rw [if_true] | rw [if_false] | rw [rv_lt_eq] | rw [if_pos (by omega)] | rw [if_neg (by omega)])
        rw [nI_add]
      · show S4.2.2.1 112 k = lN 0 ∧ S4.2.2.1 113 k = lN 0
        by_cases e : k = i
        · rw [e]
          exact ⟨by rw [eS4, rv_sL_a _ _ _ (by decide), eS3, rv_sL_eq], by rw [eS4, rv_sL_eq]⟩
        · rw [eS4, rv_sL_k _ _ e, rv_sL_k _ _ e, eS3, rv_sL_k _ _ e, rv_sL_k _ _ e]
          exact g k (by omega)
    · obtain ⟨S2, x⟩ := x
      obtain ⟨rfl, f, g⟩ := hx
      refine ⟨S2, ?_, f, g⟩
      show cX2_begin_44 n (q + 1) S2 111 (nI N) (nI N) = _
      rw [cX2_begin_44, if_pos (by rw [n_le (by omega) (by omega)]; omega)]
  obtain ⟨S2, e2, f2, g2⟩ := key
  have z : ∀ k, bs (fun i => (fun _ => false) (64 * k + i)) 64 = 0 := fun k => bs_zero.mpr fun _ _ => rfl
  refine ⟨S2, e2, (f1.mono rfl).tr (f2.mono rfl), (f2.at (a := 111) (k := 3) rfl).trans g3, fun k hk' => ?_, fun k hk' => ?_⟩
  · exact (g2 k (by omega)).1.trans (congrArg lN (z k).symm)
  · exact (g2 k (by omega)).2.trans (congrArg lN (z k).symm)
end
