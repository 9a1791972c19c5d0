/-! STATES of a coin: owner and rim, as the class numbers them and as the reference does -/
section
variable {n : Nat} {S : rvS} {m : Nat → Nat} {v : Nat}
def sB (o : Nat) (l : List Nat) : Nat := o + 32 * rb l
theorem sB_lt (hp : okp m) {o : Nat} (ho : o < vW m) {l : List Nat} (hl : okl m l) : sB o l < 1048576 := by
  have h1 := hl.lt hp
  have h2 := hp.1
  unfold sB; omega
theorem sB_mod (hp : okp m) {o : Nat} (ho : o < vW m) (l : List Nat) : sB o l % 32 = o := by
  have h2 := hp.1
  unfold sB; omega
theorem sB_div (hp : okp m) {o : Nat} (ho : o < vW m) (l : List Nat) : sB o l / 2 ^ 5 = rb l := by
  have h2 := hp.1
  unfold sB
  show (o + 32 * rb l) / 32 = rb l
  omega
theorem k_stateOf {o x : Nat} (ho : o < 32) (hx : x < 32768) : fnX2_stateOf n S (nI o) (nI x) = some (nI (o + 32 * x)) := by
  have e1 : nI o ||| nI (x * 2 ^ 5) = nI (o + 32 * x) := by
    have := fa_or_sum x (show o < 2 ^ 5 by omega)
    rw [fa_or, Nat.or_comm, ← fa_or, Nat.mul_comm x, this]
    exact congrArg nI (by omega)
  have e2 : nI (o + 32 * x) &&& nI 1048575 = nI (o + 32 * x) := by
    have := fa_mask (o + 32 * x) 20
    rw [Nat.mod_eq_of_lt (by show o + 32 * x < 1048576; omega)] at this
    exact this
  rw [fnX2_stateOf]
  simp (disch := first | assumption | omega) only [z0, z1, z2, z3, z4, z5, z6, z7, z8, z9, z10, z11, z12, z13, z15, z16, z17, z18, z20, z21, z23, z24, z25, z31, z32, z39, z40, z41, z46, z48, z50, z57, z59, z60, z61, z62, z63, z64, z97, z98, z99, z100, z101, z102, z103, z104, z105, z106, z107, z108, z109, z110, z111, z112, z113, z114, z115, z116, z117, z118, z119, z120, z121, z122, z128, z132, z200, z240, z255, z372, z390625, z400, z420, z421, z422, z662, z900, z940, z999, z1000, z1024, z2000, z5860, z10000, z12345, z15625, z266240, z1048575, z1064960, z1103515245, z_m1, n_ushl, e1, e2]
theorem k_ownerOf (hp : okp m) {o : Nat} (ho : o < vW m) (l : List Nat) : fnX2_ownerOf n S (nI (sB o l)) = some (nI o) := by
  rw [fnX2_ownerOf, z31, n_and31, sB_mod hp ho]
theorem k_rimOf (hp : okp m) {o : Nat} (ho : o < vW m) {l : List Nat} (hl : okl m l) : fnX2_rimOf n S (nI (sB o l)) = some (nI (rb l)) := by
  have h := sB_lt hp ho hl
  rw [fnX2_rimOf, z5, z31, n_ush (by omega) (by decide), sB_div hp ho]
theorem k2_goers (hn : 10 ≤ n) (hB : rv_B S) (hv : vb v) (hR : CR S v m) (hk : okm m) {o : Nat} (ho : o < vW m) {l : List Nat} (hl : okl m l) : fnX2_goers n S v (nI (sB o l)) = some (nI (gs m o l)) := by
  have hVS := VS_of hB hv; have hFS := FS_of hB hv.f; have hPS := PS_of hB hv.p; obtain ⟨hF, hP, hD⟩ := hR; obtain ⟨hp, hc, hd⟩ := hk
  simp (disch := first | assumption | omega) only [fnX2_goers, tk_gI, tk_gL, tk_gR, tk_pI, tk_pL, rv_aI, rv_aL, rv_aR, rv_uI, rv_uL, rv_uB, rv_uZ, pu_ckI, pu_ckL, pu_lnI, pu_lnL, tk_rI, tk_rL, Option.bind_some, Option.map_some, rv_lt, tk_ix, hVS, hFS, k_ownerOf hp ho, k_rimOf hp ho hl, k_goers hn hFS hF hp ho hl]
theorem k2_after (hB : rv_B S) (hv : vb v) (hR : CR S v m) (hk : okm m) {o : Nat} (ho : o < vW m) {l : List Nat} (hl : okl m l) {w : Nat} (hw : w < 32) : fnX2_after n S v (nI (sB o l)) (nI w) = some (nI (sB w (ps m o l))) := by
  have hVS := VS_of hB hv; have hFS := FS_of hB hv.f; have hPS := PS_of hB hv.p; obtain ⟨hF, hP, hD⟩ := hR; obtain ⟨hp, hc, hd⟩ := hk
  have h1 := (ps_ok hc ho hl).lt hp
  have e := k_stateOf (n := n) (S := S) hw h1
  simp (disch := first | assumption | omega) only [fnX2_after, tk_gI, tk_gL, tk_gR, tk_pI, tk_pL, rv_aI, rv_aL, rv_aR, rv_uI, rv_uL, rv_uB, rv_uZ, pu_ckI, pu_ckL, pu_lnI, pu_lnL, tk_rI, tk_rL, Option.bind_some, Option.map_some, rv_lt, tk_ix, hVS, hPS, k_ownerOf hp ho, k_rimOf hp ho hl, k_rimAfter hPS hP hp hc ho hl, e]
  rfl
theorem k_stateNow (hB : rv_B S) (hv : vb v) (hR : CR S v m) (hk : okm m) {c : Nat} (h : c < vC m) : fnX2_stateNow n S (v + 8) (nI c) = some (nI (sB (ow m c) (rl m c))) := by
  have hVS := VS_of hB hv; have hFS := FS_of hB hv.f; have hPS := PS_of hB hv.p; obtain ⟨hF, hP, hD⟩ := hR; obtain ⟨hp, hc, hd⟩ := hk
  have h1 := hc.1
  have h2 := (hc.2.2 c h).2.2.1
  have h24 := hp.1
  have e := k_stateOf (n := n) (S := S) (o := ow m c) (x := rb (rl m c)) (by omega) ((hc.l h).lt hp)
  simp (disch := first | assumption | omega) only [fnX2_stateNow, tk_gI, tk_gL, tk_gR, tk_pI, tk_pL, rv_aI, rv_aL, rv_aR, rv_uI, rv_uL, rv_uB, rv_uZ, pu_ckI, pu_ckL, pu_lnI, pu_lnL, tk_rI, tk_rL, Option.bind_some, Option.map_some, rv_lt, tk_ix, z0, z1, z2, z3, z4, z5, z6, z7, z8, z9, z10, z11, z12, z13, z15, z16, z17, z18, z20, z21, z23, z24, z25, z31, z32, z39, z40, z41, z46, z48, z50, z57, z59, z60, z61, z62, z63, z64, z97, z98, z99, z100, z101, z102, z103, z104, z105, z106, z107, z108, z109, z110, z111, z112, z113, z114, z115, z116, z117, z118, z119, z120, z121, z122, z128, z132, z200, z240, z255, z372, z390625, z400, z420, z421, z422, z662, z900, z940, z999, z1000, z1024, z2000, z5860, z10000, z12345, z15625, z266240, z1048575, z1064960, z1103515245, z_m1, n_le, n_lt, n_eq, n_bit0, n_bit1, n_sbit0, n_shl, z_ltM, z_Mlt, z_leM, z_Mle, z_eqM, z_Meq, bI0, bI1, bI_01, bI_01t, bI_10, bI_10f, if_true, if_false, eq_self, reduceCtorEq, hPS, hP, k_hasC hPS hP hc h, e]
  rfl
/-! the reference's numbers -/
def c25 (l : List Nat) (i : Nat) : Nat := match l[i]? with
  | some x => x + 1
  | none => 0
def cd (o : Nat) (l : List Nat) : Nat := 25 * (25 * (25 * o + c25 l 0) + c25 l 1) + c25 l 2
theorem c25_lt (hp : okp m) {l : List Nat} (hl : okl m l) (i : Nat) : c25 l i < 25 := by
  unfold c25
  cases h : l[i]? with
  | none => show 0 < 25; decide
  | some x =>
    have := hl.2 x (List.mem_of_getElem? h)
    have := hp.1
    show x + 1 < 25
    omega
theorem cd_lt (hp : okp m) {o : Nat} (ho : o < vW m) {l : List Nat} (hl : okl m l) : cd o l < 375000 := by
  have h0 := c25_lt hp hl 0
  have h1 := c25_lt hp hl 1
  have h2 := c25_lt hp hl 2
  have := hp.1
  unfold cd; omega
theorem c25_inj {l l' : List Nat} (h3 : l.length ≤ 3) (h3' : l'.length ≤ 3) (h : ∀ i, i < 3 → c25 l i = c25 l' i) : l = l' := by
  have h0 := h 0 (by decide)
  have h1 := h 1 (by decide)
  have h2 := h 2 (by decide)
  rcases l3 h3 with e | ⟨x, e⟩ | ⟨x, y, e⟩ | ⟨x, y, z, e⟩ <;> rcases l3 h3' with e' | ⟨x', e'⟩ | ⟨x', y', e'⟩ | ⟨x', y', z', e'⟩ <;> rw [e, e'] at h0 h1 h2 ⊢ <;> simp [c25] at h0 h1 h2 ⊢ <;> omega
theorem cd_inj (hp : okp m) {o o' : Nat} {l l' : List Nat} (hl : okl m l) (hl' : okl m l') (h : cd o l = cd o' l') : o = o' ∧ l = l' := by
  have h0 := c25_lt hp hl 0
  have h1 := c25_lt hp hl 1
  have h2 := c25_lt hp hl 2
  have h0' := c25_lt hp hl' 0
  have h1' := c25_lt hp hl' 1
  have h2' := c25_lt hp hl' 2
  unfold cd at h
  refine ⟨by omega, c25_inj hl.1 hl'.1 (fun i hi => ?_)⟩
  have : i = 0 ∨ i = 1 ∨ i = 2 := by omega
  rcases this with rfl | rfl | rfl <;> omega
theorem rb_inj : ∀ {l l' : List Nat}, (∀ x ∈ l, x < 31) → (∀ x ∈ l', x < 31) → rb l = rb l' → l = l'
  | [], [], _, _, _ => rfl
  | [], b :: t, _, h, e => by
    have := h b List.mem_cons_self
    rw [rb, rb] at e
    omega
  | a :: t, [], h, _, e => by
    have := h a List.mem_cons_self
    rw [rb, rb] at e
    omega
  | a :: t, b :: u, h, h', e => by
    have h1 := h a List.mem_cons_self
    have h2 := h' b List.mem_cons_self
    rw [rb, rb] at e
    have e1 : a = b := by omega
    have e2 : rb t = rb u := by omega
    rw [e1, rb_inj (fun x hx => h x (List.mem_cons_of_mem _ hx)) (fun x hx => h' x (List.mem_cons_of_mem _ hx)) e2]
theorem sB_inj (hp : okp m) {o o' : Nat} (ho : o < vW m) (ho' : o' < vW m) {l l' : List Nat} (hl : okl m l) (hl' : okl m l') (h : sB o l = sB o' l') : o = o' ∧ l = l' := by
  have h24 := hp.1
  unfold sB at h
  refine ⟨by omega, rb_inj (fun x hx => by have := hl.2 x hx; omega) (fun x hx => by have := hl'.2 x hx; omega) (by omega)⟩
theorem m_code (hn : 10 ≤ n) (hB : rv_B S) (hp : okp m) {o : Nat} {l : List Nat} (hH : HR S o l) (ho : o < vW m) (hl : okl m l) : fnX13_code n S 189 = some (nI (cd o l)) := by
  obtain ⟨g0, g1, g2⟩ := hH
  have rr := rf_of hB (show (189, 24, 199) ∈ rv_rf0 by decide)
  have rn := rn_199 hB
  have rc := rc_189 hB
  have l3' := hl.1
  have st : ∀ (q i x : Nat), i < 3 → cX13_code_9 n S (q + 1) 189 (nI x) (nI i) = cX13_code_9 n S q 189 (nI (25 * x + c25 l i)) (nI (i + 1)) := fun q i x hi => by
    rw [cX13_code_9]
    cases h : l[i]? with
    | none =>
      have e : c25 l i = 0 := by unfold c25; rw [h]
      have hl2 : l.length ≤ i := List.getElem?_eq_none_iff.mp h
      rw [e]
      simp (disch := first | assumption | omega) only [tk_gI, tk_gL, tk_gR, tk_pI, tk_pL, rv_aI, rv_aL, rv_aR, rv_uI, rv_uL, rv_uB, rv_uZ, pu_ckI, pu_ckL, pu_lnI, pu_lnL, tk_rI, tk_rL, Option.bind_some, Option.map_some, rv_lt, tk_ix, z0, z1, z2, z3, z4, z5, z6, z7, z8, z9, z10, z11, z12, z13, z15, z16, z17, z18, z20, z21, z23, z24, z25, z31, z32, z39, z40, z41, z46, z48, z50, z57, z59, z60, z61, z62, z63, z64, z97, z98, z99, z100, z101, z102, z103, z104, z105, z106, z107, z108, z109, z110, z111, z112, z113, z114, z115, z116, z117, z118, z119, z120, z121, z122, z128, z132, z200, z240, z255, z372, z390625, z400, z420, z421, z422, z662, z900, z940, z999, z1000, z1024, z2000, z5860, z10000, z12345, z15625, z266240, z1048575, z1064960, z1103515245, z_m1, n_le, n_lt, n_eq, n_bit0, n_bit1, n_sbit0, n_shl, z_ltM, z_Mlt, z_leM, z_Mle, z_eqM, z_Meq, bI0, bI1, bI_01, bI_01t, bI_10, bI_10f, if_true, if_false, eq_self, reduceCtorEq, if_pos, if_neg, rr, rn, rc, g1, z_mul, nI_add]
    | some y =>
      have e : c25 l i = y + 1 := by unfold c25; rw [h]
      have hl2 : i < l.length := (List.getElem?_eq_some_iff.mp h).1
      have gy := g2 i y h
      rw [e]
      simp (disch := first | assumption | omega) only [tk_gI, tk_gL, tk_gR, tk_pI, tk_pL, rv_aI, rv_aL, rv_aR, rv_uI, rv_uL, rv_uB, rv_uZ, pu_ckI, pu_ckL, pu_lnI, pu_lnL, tk_rI, tk_rL, Option.bind_some, Option.map_some, rv_lt, tk_ix, z0, z1, z2, z3, z4, z5, z6, z7, z8, z9, z10, z11, z12, z13, z15, z16, z17, z18, z20, z21, z23, z24, z25, z31, z32, z39, z40, z41, z46, z48, z50, z57, z59, z60, z61, z62, z63, z64, z97, z98, z99, z100, z101, z102, z103, z104, z105, z106, z107, z108, z109, z110, z111, z112, z113, z114, z115, z116, z117, z118, z119, z120, z121, z122, z128, z132, z200, z240, z255, z372, z390625, z400, z420, z421, z422, z662, z900, z940, z999, z1000, z1024, z2000, z5860, z10000, z12345, z15625, z266240, z1048575, z1064960, z1103515245, z_m1, n_le, n_lt, n_eq, n_bit0, n_bit1, n_sbit0, n_shl, z_ltM, z_Mlt, z_leM, z_Mle, z_eqM, z_Meq, bI0, bI1, bI_01, bI_01t, bI_10, bI_10f, if_true, if_false, eq_self, reduceCtorEq, if_pos, if_neg, rr, rn, rc, g1, gy, z_mul, nI_add, show ¬ l.length ≤ i by omega]
  have fin : ∀ q x, cX13_code_9 n S (q + 1) 189 (nI x) (nI 3) = some (nI x) := fun q x => by
    rw [cX13_code_9]
    simp (disch := first | assumption | omega) only [z0, z1, z2, z3, z4, z5, z6, z7, z8, z9, z10, z11, z12, z13, z15, z16, z17, z18, z20, z21, z23, z24, z25, z31, z32, z39, z40, z41, z46, z48, z50, z57, z59, z60, z61, z62, z63, z64, z97, z98, z99, z100, z101, z102, z103, z104, z105, z106, z107, z108, z109, z110, z111, z112, z113, z114, z115, z116, z117, z118, z119, z120, z121, z122, z128, z132, z200, z240, z255, z372, z390625, z400, z420, z421, z422, z662, z900, z940, z999, z1000, z1024, z2000, z5860, z10000, z12345, z15625, z266240, z1048575, z1064960, z1103515245, z_m1, n_le, n_lt, n_eq, n_bit0, n_bit1, n_sbit0, n_shl, z_ltM, z_Mlt, z_leM, z_Mle, z_eqM, z_Meq, bI0, bI1, bI_01, bI_01t, bI_10, bI_10f, if_true, if_false, eq_self, reduceCtorEq, if_pos, if_neg]
  rw [fnX13_code]
  simp (disch := first | assumption | omega) only [tk_gI, tk_gL, tk_gR, tk_pI, tk_pL, rv_aI, rv_aL, rv_aR, rv_uI, rv_uL, rv_uB, rv_uZ, pu_ckI, pu_ckL, pu_lnI, pu_lnL, tk_rI, tk_rL, Option.bind_some, Option.map_some, rv_lt, tk_ix, z0, z1, z2, z3, z4, z5, z6, z7, z8, z9, z10, z11, z12, z13, z15, z16, z17, z18, z20, z21, z23, z24, z25, z31, z32, z39, z40, z41, z46, z48, z50, z57, z59, z60, z61, z62, z63, z64, z97, z98, z99, z100, z101, z102, z103, z104, z105, z106, z107, z108, z109, z110, z111, z112, z113, z114, z115, z116, z117, z118, z119, z120, z121, z122, z128, z132, z200, z240, z255, z372, z390625, z400, z420, z421, z422, z662, z900, z940, z999, z1000, z1024, z2000, z5860, z10000, z12345, z15625, z266240, z1048575, z1064960, z1103515245, z_m1, rr, rn, rc, g0]
  refine un 4 (F := fun z => cX13_code_9 n S z 189 (nI o) (nI 0)) (fun q => ?_) (by omega)
  show cX13_code_9 n S (q + 3 + 1) 189 (nI o) (nI 0) = _
  rw [st _ 0 _ (by decide), st _ 1 _ (by decide), st _ 2 _ (by decide), fin]
  rfl
theorem z_mod {a b : Nat} (hb : 0 < b) (ha : a < 2147483648) (hb2 : b < 2147483648) : nI a - nI a / nI b * nI b = nI (a % b) := by
  have q := Nat.div_add_mod a b
  rw [pk_div ha hb hb2, z_mul, z_sub (by rw [Nat.mul_comm]; omega)]
  refine congrArg nI ?_
  rw [Nat.mul_comm]
  omega
theorem m_unc1 (hB : rv_B S) {x k i : Nat} (hx : x < 2147483648) (hi : i < 3) (hk : k ≤ 3) (h1 : S.2.1 199 1 = nI k) (q : Nat) : ∃ S', cX13_uncode_11 n (q + 1) S 189 (nI x) (nI i) = cX13_uncode_11 n q S' 189 (nI (x / 25)) (nI i + iM) ∧ rvf [199] S S' ∧ S'.2.1 199 1 = nI (if x % 25 = 0 then k else k + 1) ∧ (∀ j, j ≠ 1 → j ≠ 2 + i → S'.2.1 199 j = S.2.1 199 j) ∧ S'.2.1 199 (2 + i) = (if x % 25 = 0 then iM else nI (x % 25 - 1)) := by
  have rr := rf_of hB (show (189, 24, 199) ∈ rv_rf0 by decide)
  have rn := rn_199 hB
  have rc := rc_189 hB
  have md := z_mod (a := x) (b := 25) (by decide) hx (by decide)
  have nz := nz_ok (a := 25) (by decide) (by decide)
  have dv := pk_div (a := x) (d := 25) hx (by decide) (by decide)
  have ng : ¬ nI i < nI 0 := nI_pos (by omega)
  have lt : x % 25 < 25 := Nat.mod_lt _ (by decide)
  by_cases c : x % 25 = 0
  · rw [c] at md
    obtain ⟨S1, eS1⟩ : ∃ S1, S1 = rv_sI S 199 (2 + i) iM := ⟨_, rfl⟩
    have f1 : rvf [199] S S1 := by rw [eS1]; exact (rvf.rf _ _).w rfl rfl
    have hB1 := f1.B hB
    have g1 : S1.2.1 199 (2 + i) = iM := by rw [eS1, rv_sI_eq]
    have rr1 := rf_of hB1 (show (189, 24, 199) ∈ rv_rf0 by decide)
    refine ⟨S1, ?_, f1, ?_, fun j h1 h2 => by rw [eS1, rv_sI_k _ _ h2], by rw [if_pos c]; exact g1⟩
    · rw [cX13_uncode_11, z0, if_neg ng]
      simp (disch := first | assumption | omega) only [tk_gI, tk_gL, tk_gR, tk_pI, tk_pL, rv_aI, rv_aL, rv_aR, rv_uI, rv_uL, rv_uB, rv_uZ, pu_ckI, pu_ckL, pu_lnI, pu_lnL, tk_rI, tk_rL, Option.bind_some, Option.map_some, rv_lt, tk_ix, z0, z1, z2, z3, z4, z5, z6, z7, z8, z9, z10, z11, z12, z13, z15, z16, z17, z18, z20, z21, z23, z24, z25, z31, z32, z39, z40, z41, z46, z48, z50, z57, z59, z60, z61, z62, z63, z64, z97, z98, z99, z100, z101, z102, z103, z104, z105, z106, z107, z108, z109, z110, z111, z112, z113, z114, z115, z116, z117, z118, z119, z120, z121, z122, z128, z132, z200, z240, z255, z372, z390625, z400, z420, z421, z422, z662, z900, z940, z999, z1000, z1024, z2000, z5860, z10000, z12345, z15625, z266240, z1048575, z1064960, z1103515245, z_m1, rr, rn, rc, nz, md, z_01, nI_add, ← eS1, rr1, rn_199 hB1, rc_189 hB1, g1]
      rw [if_pos (by decide), cX13_uncode_50]
      simp (disch := first | assumption | omega) only [z0, z1, z2, z3, z4, z5, z6, z7, z8, z9, z10, z11, z12, z13, z15, z16, z17, z18, z20, z21, z23, z24, z25, z31, z32, z39, z40, z41, z46, z48, z50, z57, z59, z60, z61, z62, z63, z64, z97, z98, z99, z100, z101, z102, z103, z104, z105, z106, z107, z108, z109, z110, z111, z112, z113, z114, z115, z116, z117, z118, z119, z120, z121, z122, z128, z132, z200, z240, z255, z372, z390625, z400, z420, z421, z422, z662, z900, z940, z999, z1000, z1024, z2000, z5860, z10000, z12345, z15625, z266240, z1048575, z1064960, z1103515245, z_m1, nz, Option.bind_some, rv_lt, dv, z_m1]
    · rw [if_pos c, eS1, rv_sI_k _ _ (by omega)]; exact h1
  · obtain ⟨S1, eS1⟩ : ∃ S1, S1 = rv_sI S 199 (2 + i) (nI (x % 25 - 1)) := ⟨_, rfl⟩
    have f1 : rvf [199] S S1 := by rw [eS1]; exact (rvf.rf _ _).w rfl rfl
    have hB1 := f1.B hB
    have g1 : S1.2.1 199 (2 + i) = nI (x % 25 - 1) := by rw [eS1, rv_sI_eq]
    have g11 : S1.2.1 199 1 = nI k := by rw [eS1, rv_sI_k _ _ (by omega)]; exact h1
    have rr1 := rf_of hB1 (show (189, 24, 199) ∈ rv_rf0 by decide)
    obtain ⟨S2, eS2⟩ : ∃ S2, S2 = rv_sI S1 199 1 (nI (k + 1)) := ⟨_, rfl⟩
    have f2 : rvf [199] S1 S2 := by rw [eS2]; exact (rvf.rf _ _).w rfl rfl
    have sb := z_sub (a := x % 25) (b := 1) (by omega)
    have ng2 : ¬ nI (x % 25 - 1) < nI 0 := nI_pos (by omega)
    refine ⟨S2, ?_, f1.tr f2, ?_, fun j h1 h2 => by rw [eS2, rv_sI_k _ _ h1, eS1, rv_sI_k _ _ h2], by rw [if_neg c, eS2, rv_sI_k _ _ (by omega)]; exact g1⟩
    · rw [cX13_uncode_11, z0, if_neg ng]
      simp (disch := first | assumption | omega) only [tk_gI, tk_gL, tk_gR, tk_pI, tk_pL, rv_aI, rv_aL, rv_aR, rv_uI, rv_uL, rv_uB, rv_uZ, pu_ckI, pu_ckL, pu_lnI, pu_lnL, tk_rI, tk_rL, Option.bind_some, Option.map_some, rv_lt, tk_ix, z0, z1, z2, z3, z4, z5, z6, z7, z8, z9, z10, z11, z12, z13, z15, z16, z17, z18, z20, z21, z23, z24, z25, z31, z32, z39, z40, z41, z46, z48, z50, z57, z59, z60, z61, z62, z63, z64, z97, z98, z99, z100, z101, z102, z103, z104, z105, z106, z107, z108, z109, z110, z111, z112, z113, z114, z115, z116, z117, z118, z119, z120, z121, z122, z128, z132, z200, z240, z255, z372, z390625, z400, z420, z421, z422, z662, z900, z940, z999, z1000, z1024, z2000, z5860, z10000, z12345, z15625, z266240, z1048575, z1064960, z1103515245, z_m1, rr, rn, rc, nz, md, sb, nI_add, ← eS1, rr1, rn_199 hB1, rc_189 hB1, g1]
      rw [if_neg ng2]
      simp (disch := first | assumption | omega) only [cX13_uncode_50, tk_gI, tk_gL, tk_gR, tk_pI, tk_pL, rv_aI, rv_aL, rv_aR, rv_uI, rv_uL, rv_uB, rv_uZ, pu_ckI, pu_ckL, pu_lnI, pu_lnL, tk_rI, tk_rL, Option.bind_some, Option.map_some, rv_lt, tk_ix, z0, z1, z2, z3, z4, z5, z6, z7, z8, z9, z10, z11, z12, z13, z15, z16, z17, z18, z20, z21, z23, z24, z25, z31, z32, z39, z40, z41, z46, z48, z50, z57, z59, z60, z61, z62, z63, z64, z97, z98, z99, z100, z101, z102, z103, z104, z105, z106, z107, z108, z109, z110, z111, z112, z113, z114, z115, z116, z117, z118, z119, z120, z121, z122, z128, z132, z200, z240, z255, z372, z390625, z400, z420, z421, z422, z662, z900, z940, z999, z1000, z1024, z2000, z5860, z10000, z12345, z15625, z266240, z1048575, z1064960, z1103515245, z_m1, rr1, rn_199 hB1, rc_189 hB1, g11, nI_add, ← eS2, nz, dv, z_m1]
    · rw [if_neg c, eS2, rv_sI_eq]
theorem c25_un {l : List Nat} {i : Nat} {S : rvS} (h : S.2.1 199 (2 + i) = (if c25 l i = 0 then iM else nI (c25 l i - 1))) : ∀ x, l[i]? = some x → S.2.1 199 (2 + i) = nI x := fun x hx => by
  have e : c25 l i = x + 1 := by unfold c25; rw [hx]
  rw [e, if_neg (by omega), Nat.add_sub_cancel] at h
  exact h
theorem c25_cnt {l : List Nat} (h3 : l.length ≤ 3) : (if c25 l 0 = 0 then (if c25 l 1 = 0 then (if c25 l 2 = 0 then 0 else 1) else (if c25 l 2 = 0 then 0 else 1) + 1) else (if c25 l 1 = 0 then (if c25 l 2 = 0 then 0 else 1) else (if c25 l 2 = 0 then 0 else 1) + 1) + 1) = l.length := by
  rcases l3 h3 with e | ⟨x, e⟩ | ⟨x, y, e⟩ | ⟨x, y, z, e⟩ <;> rw [e] <;> simp [c25]
theorem m_uncode (hn : 10 ≤ n) (hB : rv_B S) (hp : okp m) {o : Nat} {l : List Nat} (ho : o < vW m) (hl : okl m l) : ∃ S', fnX13_uncode n S 189 (nI (cd o l)) = some S' ∧ rvf [199] S S' ∧ HR S' o l := by
  have rr := rf_of hB (show (189, 24, 199) ∈ rv_rf0 by decide)
  have rn := rn_199 hB
  have rc := rc_189 hB
  have h0 := c25_lt hp hl 0
  have h1 := c25_lt hp hl 1
  have h2 := c25_lt hp hl 2
  have hcd := cd_lt hp ho hl
  have h24 := hp.1
  obtain ⟨S0, eS0⟩ : ∃ S0, S0 = rv_sI S 199 1 (nI 0) := ⟨_, rfl⟩
  have f0 : rvf [199] S S0 := by rw [eS0]; exact (rvf.rf _ _).w rfl rfl
  have hB0 := f0.B hB
  have k0 : S0.2.1 199 1 = nI 0 := by rw [eS0, rv_sI_eq]
  obtain ⟨q, rfl⟩ : ∃ q, n = q + 4 := ⟨n - 4, by omega⟩
  have a1 : cd o l % 25 = c25 l 2 := by unfold cd; omega
  have a2 : cd o l / 25 = 25 * (25 * o + c25 l 0) + c25 l 1 := by unfold cd; omega
  obtain ⟨S1, e1, f1, p1, o1, b1⟩ := m_unc1 (n := q + 4) hB0 (x := cd o l) (k := 0) (i := 2) (by omega) (by decide) (by decide) k0 (q + 3)
  rw [a1] at p1 b1
  rw [a2] at e1
  have hB1 := f1.B hB0
  have a3 : (25 * (25 * o + c25 l 0) + c25 l 1) % 25 = c25 l 1 := by omega
  have a4 : (25 * (25 * o + c25 l 0) + c25 l 1) / 25 = 25 * o + c25 l 0 := by omega
  obtain ⟨S2, e2, f2, p2, o2, b2⟩ := m_unc1 (n := q + 4) hB1 (x := 25 * (25 * o + c25 l 0) + c25 l 1) (i := 1) (by omega) (by decide) (by split <;> omega) p1 (q + 2)
  rw [a3] at p2 b2
  rw [a4] at e2
  have hB2 := f2.B hB1
  have a5 : (25 * o + c25 l 0) % 25 = c25 l 0 := by omega
  have a6 : (25 * o + c25 l 0) / 25 = o := by omega
  obtain ⟨S3, e3, f3, p3, o3, b3⟩ := m_unc1 (n := q + 4) hB2 (x := 25 * o + c25 l 0) (i := 0) (by omega) (by decide) (by (repeat' split) <;> omega) p2 (q + 1)
  rw [a5] at p3 b3
  rw [a6] at e3
  have hB3 := f3.B hB2
  obtain ⟨S4, eS4⟩ : ∃ S4, S4 = rv_sI S3 199 0 (nI o) := ⟨_, rfl⟩
  have f4 : rvf [199] S3 S4 := by rw [eS4]; exact (rvf.rf _ _).w rfl rfl
  have k4 : ∀ j, j ≠ 0 → S4.2.1 199 j = S3.2.1 199 j := fun j hj => by rw [eS4, rv_sI_k _ _ hj]
  refine ⟨S4, ?_, f0.tr (f1.tr (f2.tr (f3.tr f4))), by rw [eS4, rv_sI_eq], ?_, fun i x hx => ?_⟩
  · have d2 : nI 2 + iM = nI 1 := z_dec
    have d1 : nI 1 + iM = nI 0 := z_dec
    have rr3 := rf_of hB3 (show (189, 24, 199) ∈ rv_rf0 by decide)
    rw [fnX13_uncode]
    simp (disch := first | assumption | omega) only [tk_gI, tk_gL, tk_gR, tk_pI, tk_pL, rv_aI, rv_aL, rv_aR, rv_uI, rv_uL, rv_uB, rv_uZ, pu_ckI, pu_ckL, pu_lnI, pu_lnL, tk_rI, tk_rL, Option.bind_some, Option.map_some, rv_lt, tk_ix, z0, z1, z2, z3, z4, z5, z6, z7, z8, z9, z10, z11, z12, z13, z15, z16, z17, z18, z20, z21, z23, z24, z25, z31, z32, z39, z40, z41, z46, z48, z50, z57, z59, z60, z61, z62, z63, z64, z97, z98, z99, z100, z101, z102, z103, z104, z105, z106, z107, z108, z109, z110, z111, z112, z113, z114, z115, z116, z117, z118, z119, z120, z121, z122, z128, z132, z200, z240, z255, z372, z390625, z400, z420, z421, z422, z662, z900, z940, z999, z1000, z1024, z2000, z5860, z10000, z12345, z15625, z266240, z1048575, z1064960, z1103515245, z_m1, rr, rn, rc, ← eS0]
    rw [e1, d2, e2, d1, e3, cX13_uncode_11, if_pos (by decide)]
    simp (disch := first | assumption | omega) only [tk_gI, tk_gL, tk_gR, tk_pI, tk_pL, rv_aI, rv_aL, rv_aR, rv_uI, rv_uL, rv_uB, rv_uZ, pu_ckI, pu_ckL, pu_lnI, pu_lnL, tk_rI, tk_rL, Option.bind_some, Option.map_some, rv_lt, tk_ix, z0, z1, z2, z3, z4, z5, z6, z7, z8, z9, z10, z11, z12, z13, z15, z16, z17, z18, z20, z21, z23, z24, z25, z31, z32, z39, z40, z41, z46, z48, z50, z57, z59, z60, z61, z62, z63, z64, z97, z98, z99, z100, z101, z102, z103, z104, z105, z106, z107, z108, z109, z110, z111, z112, z113, z114, z115, z116, z117, z118, z119, z120, z121, z122, z128, z132, z200, z240, z255, z372, z390625, z400, z420, z421, z422, z662, z900, z940, z999, z1000, z1024, z2000, z5860, z10000, z12345, z15625, z266240, z1048575, z1064960, z1103515245, z_m1, rr3, rn_199 hB3, rc_189 hB3, ← eS4]
  · rw [k4 1 (by decide), p3]
    exact congrArg nI (c25_cnt hl.1)
  · rw [k4 _ (by omega)]
    have hi : i < 3 := by
      have := (List.getElem?_eq_some_iff.mp hx).1
      have := hl.1
      omega
    have : i = 0 ∨ i = 1 ∨ i = 2 := by omega
    rcases this with rfl | rfl | rfl
    · exact c25_un b3 x hx
    · rw [o3 _ (by decide) (by decide)]
      exact c25_un b2 x hx
    · rw [o3 _ (by decide) (by decide), o2 _ (by decide) (by decide)]
      exact c25_un b1 x hx
theorem m_passL (hn : 10 ≤ n) (hB : rv_B S) (hM : MR S m) (hc : okc m) {o : Nat} {l : List Nat} (hH : HR S o l) (ho : o < 24) (hl : l.length ≤ 3) (hlx : ∀ x ∈ l, x < 24) (w : Nat) : ∃ S', fnX13_pass n S 189 (nI w) = some S' ∧ rvf [199] S S' ∧ HR S' w (ps m o l) := by
  obtain ⟨g0, g1, g2⟩ := hH
  have tn : ∀ a : Nat, a < 4294967296 → (nI a).toBitVec.toNat = a := fun a ha => by
    show (BitVec.ofNat 32 a).toNat = a
    rw [BitVec.toNat_ofNat, Nat.mod_eq_of_lt (by omega)]
  obtain ⟨H, eH⟩ : ∃ H : Nat → Nat, H = fun k => (S.2.1 199 k).toBitVec.toNat := ⟨_, rfl⟩
  have hH' : ∀ k, S.2.1 199 k = nI (H k) := fun k => by rw [eH]; exact i_of _
  have H0 : H 0 = o := by rw [eH]; show (S.2.1 199 0).toBitVec.toNat = o; rw [g0, tn _ (by omega)]
  have H1 : H 1 = l.length := by rw [eH]; show (S.2.1 199 1).toBitVec.toNat = l.length; rw [g1, tn _ (by omega)]
  have HL : ∀ i x, l[i]? = some x → H (2 + i) = x := fun i x hx => by
    have := hlx x (List.mem_of_getElem? hx)
    rw [eH]; show (S.2.1 199 (2 + i)).toBitVec.toNat = x; rw [g2 i x hx, tn _ (by omega)]
  obtain ⟨S', e, f, g⟩ := m_pass hn hB hM hc (H := H) (fun k _ => hH' k) (by omega) w
  have hN := hc.2.1
  have q0 : S'.2.1 199 0 = nI w := g 0 (by decide)
  have q1 : S'.2.1 199 1 = nI (pN (vN m) H) := g 1 (by decide)
  have q2 : S'.2.1 199 2 = nI (if 0 < pN (vN m) H then H 0 else H 2) := g 2 (by decide)
  have q3 : S'.2.1 199 3 = nI (if 1 < pN (vN m) H then H 2 else H 3) := g 3 (by decide)
  have q4 : S'.2.1 199 4 = nI (if 2 < pN (vN m) H then H 3 else H 4) := g 4 (by decide)
  have pn : pN (vN m) H = if l.length < vN m then l.length + 1 else vN m := by unfold pN; rw [H1]
  rw [pn] at q1 q2 q3 q4
  rw [H0] at q2
  refine ⟨S', e, f, q0, ?_, fun i x hx => ?_⟩
  · rw [q1, ps, List.length_take, List.length_cons]
    refine congrArg nI ?_
    split <;> omega
  · rw [ps, List.getElem?_take] at hx
    by_cases c : i < vN m
    · rw [if_pos c] at hx
      have hlen : i < (o :: l).length := (List.getElem?_eq_some_iff.mp hx).1
      rw [List.length_cons] at hlen
      have pl : i < (if l.length < vN m then l.length + 1 else vN m) := by split <;> omega
      have : i = 0 ∨ i = 1 ∨ i = 2 := by omega
      rcases this with rfl | rfl | rfl
      · rw [q2, if_pos pl]
        exact congrArg nI (Option.some.inj hx)
      · rw [q3, if_pos pl]
        exact congrArg nI (HL 0 x hx)
      · rw [q4, if_pos pl]
        exact congrArg nI (HL 1 x hx)
    · rw [if_neg c] at hx
      cases hx
end
