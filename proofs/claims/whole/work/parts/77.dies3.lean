/-! DIES, the class; both -/
section
variable {n : Nat} {S : rvS} {m m' : Nat → Nat} {wd : Nat → List Nat}
/-- only the ints of one row change -/
def one (a : Nat) (S S' : rvS) : Prop := S'.1 = S.1 ∧ S'.2.2 = S.2.2 ∧ ∀ b, b ≠ a → S'.2.1 b = S.2.1 b
theorem one.rf (a : Nat) (S : rvS) : one a S S := ⟨rfl, rfl, fun _ _ => rfl⟩
theorem one.w {a k : Nat} {v : Int32} {S S1 : rvS} (h : one a S S1) : one a S (rv_sI S1 a k v) := ⟨h.1, h.2.1, fun b hb => by
  refine Eq.trans (funext fun j => rv_sI_a _ _ _ hb _) (h.2.2 b hb)⟩
theorem one.tr {a : Nat} {S S1 S2 : rvS} (h : one a S S1) (k : one a S1 S2) : one a S S2 := ⟨k.1.trans h.1, k.2.1.trans h.2.1, fun b hb => (k.2.2 b hb).trans (h.2.2 b hb)⟩
theorem one.B {a : Nat} {S S' : rvS} (h : one a S S') (hB : rv_B S) : rv_B S' := ⟨by rw [h.1]; exact hB.1, fun q hq => by rw [h.2.1]; exact hB.2 q hq⟩
theorem one.f {a : Nat} {S S' : rvS} (h : one a S S') (hr : rwb a = true) : rvf [a] S S' := ⟨h.1, rvr.rf (by rw [h.2.1]), fun b k hb => ⟨by
  rw [h.2.2 b (fun z => hb (by rw [z, lc_row hr]; exact List.mem_singleton_self _))], by rw [h.2.1]⟩⟩
theorem k_inherit (hn : 50 ≤ n) (hB : rv_B S) {p : Nat} (hpb : pb p) (hR : PR S p m) (hp : okp m) (hc : okc m) {w h : Nat} (hw : w < vW m) : ∃ S', fnX6_inherit n S p (nI w) (nI h) = some S' ∧ one (p + 2) S S' ∧ ∀ c, c < vC m → S'.2.1 (p + 2) c = nI (if ow m c = w then h else ow m c) := by
  have h24 := hp.1
  have h40 := hc.1
  obtain ⟨b1, b2, b3, b4, b5⟩ := hR
  rw [fnX6_inherit]
  refine lp (F := fun q (x : rvS × Int32) => cX6_inherit_2 n q x.1 p (nI w) (nI h) x.2) (fun i x => x.2 = nI i ∧ (one (p + 2) S x.1 ∧ (∀ c, i ≤ c → x.1.2.1 (p + 2) c = S.2.1 (p + 2) c)) ∧ ∀ c, c < i → x.1.2.1 (p + 2) c = nI (if ow m c = w then h else ow m c)) (fun r => ∃ S', r = some S' ∧ one (p + 2) S S' ∧ ∀ c, c < vC m → S'.2.1 (p + 2) c = nI (if ow m c = w then h else ow m c)) (vC m) (fun i x q hi hx => Or.inr ?_) (fun x q hx => ?_) (i := 0) (x := (S, 0)) (q := n) (Nat.zero_le _) ⟨rfl, ⟨one.rf _ _, fun _ _ => rfl⟩, fun c hc => absurd hc (Nat.not_lt_zero c)⟩ (by omega)
  · obtain ⟨S1, x2⟩ := x
    obtain ⟨rfl, ⟨f1, g1⟩, r1⟩ := hx
    have f1 : one (p + 2) S S1 := f1
    have hB1 := f1.B hB
    have hPS := PS_of hB1 hpb
    have s0 : S1.2.1 p 0 = nI (vC m) := (congrFun (f1.2.2 p (by omega)) 0).trans b1
    have s2 : S1.2.1 (p + 2) i = nI (ow m i) := (g1 i (Nat.le_refl i)).trans (b4 i hi)
    have ho := (hc.2.2 i hi).2.2.1
    by_cases cw : ow m i = w
    · refine ⟨(rv_sI S1 (p + 2) i (nI h), nI (i + 1)), ?_, rfl, ⟨f1.w, fun c hc' => ?_⟩, fun c hc' => ?_⟩
      · show cX6_inherit_2 n (q + 1) S1 p (nI w) (nI h) (nI i) = _
        rw [cX6_inherit_2]
        simp (disch := first | assumption | omega) only [tk_gI, tk_gL, tk_gR, tk_pI, tk_pL, rv_aI, rv_aL, rv_aR, rv_uI, rv_uL, rv_uB, rv_uZ, pu_ckI, pu_ckL, pu_lnI, pu_lnL, tk_rI, tk_rL, Option.bind_some, Option.map_some, rv_lt, tk_ix, z0, z1, z2, z3, z4, z5, z6, z7, z8, z9, z10, z11, z12, z13, z15, z16, z17, z18, z20, z21, z23, z24, z25, z31, z32, z39, z40, z41, z46, z48, z50, z57, z59, z60, z61, z62, z63, z64, z97, z98, z99, z100, z101, z102, z103, z104, z105, z106, z107, z108, z109, z110, z111, z112, z113, z114, z115, z116, z117, z118, z119, z120, z121, z122, z128, z132, z200, z240, z255, z372, z390625, z400, z420, z421, z422, z662, z900, z940, z999, z1000, z1024, z2000, z5860, z10000, z12345, z15625, z266240, z1048575, z1064960, z1103515245, z_m1, n_le, n_lt, n_eq, n_bit0, n_bit1, n_sbit0, n_shl, z_ltM, z_Mlt, z_leM, z_Mle, z_eqM, z_Meq, bI0, bI1, bI_01, bI_01t, bI_10, bI_10f, if_true, if_false, eq_self, reduceCtorEq, if_pos, if_neg, hPS, s0, s2, cw, nI_add]
      · rw [rv_sI_k _ _ (by omega)]; exact g1 c (by omega)
      · by_cases ci : c = i
        · subst ci; rw [rv_sI_eq, if_pos cw]
        · rw [rv_sI_k _ _ ci]; exact r1 c (by omega)
    · refine ⟨(S1, nI (i + 1)), ?_, rfl, ⟨f1, fun c hc' => g1 c (by omega)⟩, fun c hc' => ?_⟩
      · show cX6_inherit_2 n (q + 1) S1 p (nI w) (nI h) (nI i) = _
        rw [cX6_inherit_2]
        simp (disch := first | assumption | omega) only [tk_gI, tk_gL, tk_gR, tk_pI, tk_pL, rv_aI, rv_aL, rv_aR, rv_uI, rv_uL, rv_uB, rv_uZ, pu_ckI, pu_ckL, pu_lnI, pu_lnL, tk_rI, tk_rL, Option.bind_some, Option.map_some, rv_lt, tk_ix, z0, z1, z2, z3, z4, z5, z6, z7, z8, z9, z10, z11, z12, z13, z15, z16, z17, z18, z20, z21, z23, z24, z25, z31, z32, z39, z40, z41, z46, z48, z50, z57, z59, z60, z61, z62, z63, z64, z97, z98, z99, z100, z101, z102, z103, z104, z105, z106, z107, z108, z109, z110, z111, z112, z113, z114, z115, z116, z117, z118, z119, z120, z121, z122, z128, z132, z200, z240, z255, z372, z390625, z400, z420, z421, z422, z662, z900, z940, z999, z1000, z1024, z2000, z5860, z10000, z12345, z15625, z266240, z1048575, z1064960, z1103515245, z_m1, n_le, n_lt, n_eq, n_bit0, n_bit1, n_sbit0, n_shl, z_ltM, z_Mlt, z_leM, z_Mle, z_eqM, z_Meq, bI0, bI1, bI_01, bI_01t, bI_10, bI_10f, if_true, if_false, eq_self, reduceCtorEq, if_pos, if_neg, hPS, s0, s2, nI_add]
      · by_cases ci : c = i
        · subst ci; rw [if_neg cw]; exact s2
        · exact r1 c (by omega)
  · obtain ⟨S1, x2⟩ := x
    obtain ⟨rfl, ⟨f1, g1⟩, r1⟩ := hx
    have f1 : one (p + 2) S S1 := f1
    have hB1 := f1.B hB
    have hPS := PS_of hB1 hpb
    have s0 : S1.2.1 p 0 = nI (vC m) := (congrFun (f1.2.2 p (by omega)) 0).trans b1
    refine ⟨S1, ?_, f1, r1⟩
    show cX6_inherit_2 n (q + 1) S1 p (nI w) (nI h) (nI (vC m)) = _
    rw [cX6_inherit_2]
    simp (disch := first | assumption | omega) only [tk_gI, tk_gL, tk_gR, tk_pI, tk_pL, rv_aI, rv_aL, rv_aR, rv_uI, rv_uL, rv_uB, rv_uZ, pu_ckI, pu_ckL, pu_lnI, pu_lnL, tk_rI, tk_rL, Option.bind_some, Option.map_some, rv_lt, tk_ix, z0, z1, z2, z3, z4, z5, z6, z7, z8, z9, z10, z11, z12, z13, z15, z16, z17, z18, z20, z21, z23, z24, z25, z31, z32, z39, z40, z41, z46, z48, z50, z57, z59, z60, z61, z62, z63, z64, z97, z98, z99, z100, z101, z102, z103, z104, z105, z106, z107, z108, z109, z110, z111, z112, z113, z114, z115, z116, z117, z118, z119, z120, z121, z122, z128, z132, z200, z240, z255, z372, z390625, z400, z420, z421, z422, z662, z900, z940, z999, z1000, z1024, z2000, z5860, z10000, z12345, z15625, z266240, z1048575, z1064960, z1103515245, z_m1, n_le, n_lt, n_eq, n_bit0, n_bit1, n_sbit0, n_shl, z_ltM, z_Mlt, z_leM, z_Mle, z_eqM, z_Meq, bI0, bI1, bI_01, bI_01t, bI_10, bI_10f, if_true, if_false, eq_self, reduceCtorEq, if_pos, if_neg, hPS, s0]
theorem rb_app (y : Nat) : ∀ a : List Nat, rb (a ++ [y]) = rb a + (y + 1) * 32 ^ a.length := by
  intro a
  induction a with
  | nil => show y + 1 + 32 * 0 = 0 + (y + 1) * 1; omega
  | cons x a ih =>
    rw [List.cons_append, rb, rb, ih, List.length_cons, Nat.pow_succ]
    rw [Nat.mul_add, ← Nat.mul_assoc, Nat.mul_comm 32 (y + 1), Nat.mul_assoc (y + 1) 32, Nat.mul_comm 32 (32 ^ a.length)]
    omega
theorem rb_or {a : List Nat} (ha : ∀ x ∈ a, x < 31) (hl : a.length ≤ 2) {y : Nat} : nI (rb a) ||| (nI (y + 1) <<< (nI (5 * a.length) &&& nI 31)) = nI (rb (a ++ [y])) := by
  have h := rb_lt ha
  have e : (2 : Nat) ^ (5 * a.length) = 32 ^ a.length := by rw [Nat.pow_mul]
  have h' : rb a < 2 ^ (5 * a.length) := by rw [e]; exact h
  have q := Nat.two_pow_add_eq_or_of_lt h' (y + 1)
  rw [n_ushl _ (by omega), rb_app, fa_or, Nat.or_comm, Nat.mul_comm (y + 1) (2 ^ (5 * a.length)), ← q, e, Nat.add_comm (32 ^ a.length * (y + 1)), Nat.mul_comm (32 ^ a.length)]
/-- a name put in the place of another one -/
def rnO (w : Nat) (o : Option Nat) (x : Nat) : List Nat := if x = w then o.toList else [x]
theorem k_rn1 {K : Nat → Int32 → Int32 → Int32 → rvS → Option rvS} (hB : rv_B S) {p : Nat} (hpb : pb p) {c : Nat} (hc : c < 40) {l : List Nat} (hr : S.2.1 (p + 3) c = nI (rb l)) (hp : okp m) (hl : okl m l) {w : Nat} (hw : w < vW m) {o : Option Nat} (ho : ∀ h, o = some h → h < 24) {i : Nat} (hi : i < 3) {a : List Nat} (ha : ∀ x ∈ a, x < 31) (hla : a.length ≤ i) (q : Nat) : cX6_rename_19 n K (q + 1) S p (nI w) (oI o) (nI c) (nI (rb a)) (nI a.length) (nI i) = (fun b => cX6_rename_19 n K q S p (nI w) (oI o) (nI c) (nI (rb b)) (nI b.length) (nI (i + 1))) (a ++ (match l[i]? with | some x => rnO w o x | none => [])) := by
  have hPS := PS_of hB hpb
  have h24 := hp.1
  have kn := k_nameOn (n := n) (S := S) hp hl (i := i) (by omega)
  have app : ∀ y, nI (rb a) ||| ((nI y + nI 1) <<< (nI (5 * a.length) &&& nI 31)) = nI (rb (a ++ [y])) := fun y => by rw [nI_add, rb_or ha (by omega)]
  have len : ∀ y, nI (a.length + 1) = nI (a ++ [y]).length := fun y => by rw [List.length_append]; rfl
  rw [cX6_rename_19]
  unfold nmI at kn
  cases hx : l[i]? with
  | none =>
    rw [hx] at kn
    simp (disch := first | assumption | omega) only [cX6_rename_55, tk_gI, tk_gL, tk_gR, tk_pI, tk_pL, rv_aI, rv_aL, rv_aR, rv_uI, rv_uL, rv_uB, rv_uZ, pu_ckI, pu_ckL, pu_lnI, pu_lnL, tk_rI, tk_rL, Option.bind_some, Option.map_some, rv_lt, tk_ix, z0, z1, z2, z3, z4, z5, z6, z7, z8, z9, z10, z11, z12, z13, z15, z16, z17, z18, z20, z21, z23, z24, z25, z31, z32, z39, z40, z41, z46, z48, z50, z57, z59, z60, z61, z62, z63, z64, z97, z98, z99, z100, z101, z102, z103, z104, z105, z106, z107, z108, z109, z110, z111, z112, z113, z114, z115, z116, z117, z118, z119, z120, z121, z122, z128, z132, z200, z240, z255, z372, z390625, z400, z420, z421, z422, z662, z900, z940, z999, z1000, z1024, z2000, z5860, z10000, z12345, z15625, z266240, z1048575, z1064960, z1103515245, z_m1, n_le, n_lt, n_eq, n_bit0, n_bit1, n_sbit0, n_shl, z_ltM, z_Mlt, z_leM, z_Mle, z_eqM, z_Meq, bI0, bI1, bI_01, bI_01t, bI_10, bI_10f, if_true, if_false, eq_self, reduceCtorEq, if_pos, if_neg, hPS, hr, kn, nI_add, List.append_nil]
  | some x =>
    rw [hx] at kn
    have hx24 := hl.2 x (List.mem_of_getElem? hx)
    by_cases cx : x = w
    · simp (disch := first | assumption | omega) only [cX6_rename_55, tk_gI, tk_gL, tk_gR, tk_pI, tk_pL, rv_aI, rv_aL, rv_aR, rv_uI, rv_uL, rv_uB, rv_uZ, pu_ckI, pu_ckL, pu_lnI, pu_lnL, tk_rI, tk_rL, Option.bind_some, Option.map_some, rv_lt, tk_ix, z0, z1, z2, z3, z4, z5, z6, z7, z8, z9, z10, z11, z12, z13, z15, z16, z17, z18, z20, z21, z23, z24, z25, z31, z32, z39, z40, z41, z46, z48, z50, z57, z59, z60, z61, z62, z63, z64, z97, z98, z99, z100, z101, z102, z103, z104, z105, z106, z107, z108, z109, z110, z111, z112, z113, z114, z115, z116, z117, z118, z119, z120, z121, z122, z128, z132, z200, z240, z255, z372, z390625, z400, z420, z421, z422, z662, z900, z940, z999, z1000, z1024, z2000, z5860, z10000, z12345, z15625, z266240, z1048575, z1064960, z1103515245, z_m1, n_le, n_lt, n_eq, n_bit0, n_bit1, n_sbit0, n_shl, z_ltM, z_Mlt, z_leM, z_Mle, z_eqM, z_Meq, bI0, bI1, bI_01, bI_01t, bI_10, bI_10f, if_true, if_false, eq_self, reduceCtorEq, if_pos, if_neg, hPS, hr, kn, cx, nI_add, z_mul]
      cases o with
      | none =>
        unfold oI rnO
        dsimp only
        rw [if_pos rfl]
        simp only [if_true, List.append_nil, Option.toList]
      | some h =>
        have hh := ho h rfl
        have hne : ¬ nI h = iM := fun z => by
          have := z_eqM (a := h) (by omega)
          rw [← this]; exact z
        unfold oI rnO
        dsimp only
        rw [if_pos rfl, if_neg hne, app h, len h]
        rfl
    · have hne : ¬ nI x = iM := fun z => by
        have := z_eqM (a := x) (by omega)
        rw [← this]; exact z
      unfold rnO
      simp (disch := first | assumption | omega) only [cX6_rename_55, tk_gI, tk_gL, tk_gR, tk_pI, tk_pL, rv_aI, rv_aL, rv_aR, rv_uI, rv_uL, rv_uB, rv_uZ, pu_ckI, pu_ckL, pu_lnI, pu_lnL, tk_rI, tk_rL, Option.bind_some, Option.map_some, rv_lt, tk_ix, z0, z1, z2, z3, z4, z5, z6, z7, z8, z9, z10, z11, z12, z13, z15, z16, z17, z18, z20, z21, z23, z24, z25, z31, z32, z39, z40, z41, z46, z48, z50, z57, z59, z60, z61, z62, z63, z64, z97, z98, z99, z100, z101, z102, z103, z104, z105, z106, z107, z108, z109, z110, z111, z112, z113, z114, z115, z116, z117, z118, z119, z120, z121, z122, z128, z132, z200, z240, z255, z372, z390625, z400, z420, z421, z422, z662, z900, z940, z999, z1000, z1024, z2000, z5860, z10000, z12345, z15625, z266240, z1048575, z1064960, z1103515245, z_m1, n_le, n_lt, n_eq, n_bit0, n_bit1, n_sbit0, n_shl, z_ltM, z_Mlt, z_leM, z_Mle, z_eqM, z_Meq, bI0, bI1, bI_01, bI_01t, bI_10, bI_10f, if_true, if_false, eq_self, reduceCtorEq, if_pos, if_neg, hPS, hr, kn, nI_add, z_mul, if_neg cx]
      rw [rb_or ha (by omega), len x]
theorem k_rename (hn : 50 ≤ n) (hB : rv_B S) {p : Nat} (hpb : pb p) (h0 : S.2.1 p 0 = nI (vC m)) (hR : ∀ c, c < vC m → S.2.1 (p + 3) c = nI (rb (rl m c))) (hp : okp m) (hc : okc m) {w : Nat} (hw : w < vW m) {o : Option Nat} (ho : ∀ h, o = some h → h < 24) : ∃ S', fnX6_rename n S p (nI w) (oI o) = some S' ∧ one (p + 3) S S' ∧ ∀ c, c < vC m → S'.2.1 (p + 3) c = nI (rb ((rl m c).flatMap (rnO w o))) := by
  have h24 := hp.1
  have h40 := hc.1
  rw [fnX6_rename]
  refine lp (F := fun q (x : rvS × Int32) => cX6_rename_2 n q x.1 p (nI w) (oI o) x.2) (fun i x => x.2 = nI i ∧ (one (p + 3) S x.1 ∧ (∀ c, i ≤ c → x.1.2.1 (p + 3) c = S.2.1 (p + 3) c)) ∧ ∀ c, c < i → x.1.2.1 (p + 3) c = nI (rb ((rl m c).flatMap (rnO w o)))) (fun r => ∃ S', r = some S' ∧ one (p + 3) S S' ∧ ∀ c, c < vC m → S'.2.1 (p + 3) c = nI (rb ((rl m c).flatMap (rnO w o)))) (vC m) (fun i x q hi hx => Or.inr ?_) (fun x q hx => ?_) (i := 0) (x := (S, 0)) (q := n) (Nat.zero_le _) ⟨rfl, ⟨one.rf _ _, fun _ _ => rfl⟩, fun c hc => absurd hc (Nat.not_lt_zero c)⟩ (by omega)
  · obtain ⟨S1, x2⟩ := x
    obtain ⟨rfl, ⟨f1, g1⟩, r1⟩ := hx
    have f1 : one (p + 3) S S1 := f1
    have hB1 := f1.B hB
    have hPS := PS_of hB1 hpb
    have s0 : S1.2.1 p 0 = nI (vC m) := (congrFun (f1.2.2 p (by omega)) 0).trans h0
    have s3 : S1.2.1 (p + 3) i = nI (rb (rl m i)) := (g1 i (Nat.le_refl i)).trans (hR i hi)
    have hl := hc.l hi
    refine ⟨(rv_sI S1 (p + 3) i (nI (rb ((rl m i).flatMap (rnO w o)))), nI (i + 1)), ?_, rfl, ⟨f1.w, fun c hc' => ?_⟩, fun c hc' => ?_⟩
    · show cX6_rename_2 n (q + 1) S1 p (nI w) (oI o) (nI i) = _
      have e19 : cX6_rename_19 n (fun a0 x1 x2 x3 S => cX6_rename_2 n q S a0 x1 x2 x3) n S1 p (nI w) (oI o) (nI i) (nI 0) (nI 0) (nI 0) = cX6_rename_2 n q (rv_sI S1 (p + 3) i (nI (rb ((rl m i).flatMap (rnO w o))))) p (nI w) (oI o) (nI (i + 1)) := by
        refine un 4 (F := fun z => cX6_rename_19 n (fun a0 x1 x2 x3 S => cX6_rename_2 n q S a0 x1 x2 x3) z S1 p (nI w) (oI o) (nI i) (nI 0) (nI 0) (nI 0)) (fun q2 => ?_) (by omega)
        have st := fun (j : Nat) (hj : j < 3) (a : List Nat) ha hla q3 => k_rn1 (n := n) (K := fun a0 x1 x2 x3 S => cX6_rename_2 n q S a0 x1 x2 x3) hB1 hpb (show i < 40 by omega) s3 hp hl hw ho hj (a := a) ha hla q3
        have fin : ∀ b : List Nat, cX6_rename_19 n (fun a0 x1 x2 x3 S => cX6_rename_2 n q S a0 x1 x2 x3) (q2 + 1) S1 p (nI w) (oI o) (nI i) (nI (rb b)) (nI b.length) (nI 3) = cX6_rename_2 n q (rv_sI S1 (p + 3) i (nI (rb b))) p (nI w) (oI o) (nI (i + 1)) := fun b => by
          rw [cX6_rename_19]
          simp (disch := first | assumption | omega) only [cX6_rename_86, tk_gI, tk_gL, tk_gR, tk_pI, tk_pL, rv_aI, rv_aL, rv_aR, rv_uI, rv_uL, rv_uB, rv_uZ, pu_ckI, pu_ckL, pu_lnI, pu_lnL, tk_rI, tk_rL, Option.bind_some, Option.map_some, rv_lt, tk_ix, z0, z1, z2, z3, z4, z5, z6, z7, z8, z9, z10, z11, z12, z13, z15, z16, z17, z18, z20, z21, z23, z24, z25, z31, z32, z39, z40, z41, z46, z48, z50, z57, z59, z60, z61, z62, z63, z64, z97, z98, z99, z100, z101, z102, z103, z104, z105, z106, z107, z108, z109, z110, z111, z112, z113, z114, z115, z116, z117, z118, z119, z120, z121, z122, z128, z132, z200, z240, z255, z372, z390625, z400, z420, z421, z422, z662, z900, z940, z999, z1000, z1024, z2000, z5860, z10000, z12345, z15625, z266240, z1048575, z1064960, z1103515245, z_m1, n_le, n_lt, n_eq, n_bit0, n_bit1, n_sbit0, n_shl, z_ltM, z_Mlt, z_leM, z_Mle, z_eqM, z_Meq, bI0, bI1, bI_01, bI_01t, bI_10, bI_10f, if_true, if_false, eq_self, reduceCtorEq, if_pos, if_neg, hPS, nI_add]
        have mm : ∀ x, (∀ z ∈ rnO w o x, z < 31 ∨ z = x) ∧ (rnO w o x).length ≤ 1 := fun x => by
          unfold rnO
          split
          · cases o with
            | none => exact ⟨fun z hz => by simp at hz, by simp⟩
            | some h => exact ⟨fun z hz => by
                have := ho h rfl
                simp at hz
                omega, by simp⟩
          · exact ⟨fun z hz => by simp at hz; exact Or.inr hz, by simp⟩
        have h3l := hl.2
        rcases l3 hl.1 with e | ⟨x, e⟩ | ⟨x, y, e⟩ | ⟨x, y, u, e⟩ <;> rw [e] at st h3l ⊢ <;> simp only [List.mem_cons, List.not_mem_nil, or_false, forall_eq_or_imp, forall_eq] at h3l
        · have t0 := st 0 (by decide) [] (by simp) (by simp) (q2 + 3)
          have t1 := st 1 (by decide) [] (by simp) (by simp) (q2 + 2)
          have t2 := st 2 (by decide) [] (by simp) (by simp) (q2 + 1)
          dsimp only [List.getElem?_nil, List.append_nil] at t0 t1 t2
          exact t0.trans (t1.trans (t2.trans (fin [])))
        · obtain ⟨m1, m2⟩ := mm x
          have b1 : ∀ z ∈ rnO w o x, z < 31 := fun z hz => by rcases m1 z hz with k | k <;> omega
          have t0 := st 0 (by decide) [] (by simp) (by simp) (q2 + 3)
          have t1 := st 1 (by decide) (rnO w o x) b1 (by omega) (q2 + 2)
          have t2 := st 2 (by decide) (rnO w o x) b1 (by omega) (q2 + 1)
          simp only [List.getElem?_cons_zero, List.getElem?_cons_succ, List.getElem?_nil, List.append_nil, List.nil_append] at t0 t1 t2
          have := t0.trans (t1.trans (t2.trans (fin _)))
          rw [show [x].flatMap (rnO w o) = rnO w o x by simp]
          exact this
        · obtain ⟨m1, m2⟩ := mm x
          obtain ⟨m3, m4⟩ := mm y
          have b1 : ∀ z ∈ rnO w o x, z < 31 := fun z hz => by rcases m1 z hz with k | k <;> omega
          have b2 : ∀ z ∈ rnO w o x ++ rnO w o y, z < 31 := fun z hz => by
            rcases List.mem_append.mp hz with k | k
            · exact b1 z k
            · rcases m3 z k with k | k <;> omega
          have t0 := st 0 (by decide) [] (by simp) (by simp) (q2 + 3)
          have t1 := st 1 (by decide) (rnO w o x) b1 (by omega) (q2 + 2)
          have t2 := st 2 (by decide) (rnO w o x ++ rnO w o y) b2 (by rw [List.length_append]; omega) (q2 + 1)
          simp only [List.getElem?_cons_zero, List.getElem?_cons_succ, List.getElem?_nil, List.append_nil, List.nil_append] at t0 t1 t2
          have := t0.trans (t1.trans (t2.trans (fin _)))
          rw [show [x, y].flatMap (rnO w o) = rnO w o x ++ rnO w o y by simp]
          exact this
        · obtain ⟨m1, m2⟩ := mm x
          obtain ⟨m3, m4⟩ := mm y
          have b1 : ∀ z ∈ rnO w o x, z < 31 := fun z hz => by rcases m1 z hz with k | k <;> omega
          have b2 : ∀ z ∈ rnO w o x ++ rnO w o y, z < 31 := fun z hz => by
            rcases List.mem_append.mp hz with k | k
            · exact b1 z k
            · rcases m3 z k with k | k <;> omega
          have t0 := st 0 (by decide) [] (by simp) (by simp) (q2 + 3)
          have t1 := st 1 (by decide) (rnO w o x) b1 (by omega) (q2 + 2)
          have t2 := st 2 (by decide) (rnO w o x ++ rnO w o y) b2 (by rw [List.length_append]; omega) (q2 + 1)
          simp only [List.getElem?_cons_zero, List.getElem?_cons_succ, List.getElem?_nil, List.append_nil, List.nil_append] at t0 t1 t2
          have := t0.trans (t1.trans (t2.trans (fin _)))
          rw [show [x, y, u].flatMap (rnO w o) = rnO w o x ++ rnO w o y ++ rnO w o u by simp]
          exact this
      rw [cX6_rename_2]
      simp (disch := first | assumption | omega) only [tk_gI, tk_gL, tk_gR, tk_pI, tk_pL, rv_aI, rv_aL, rv_aR, rv_uI, rv_uL, rv_uB, rv_uZ, pu_ckI, pu_ckL, pu_lnI, pu_lnL, tk_rI, tk_rL, Option.bind_some, Option.map_some, rv_lt, tk_ix, z0, z1, z2, z3, z4, z5, z6, z7, z8, z9, z10, z11, z12, z13, z15, z16, z17, z18, z20, z21, z23, z24, z25, z31, z32, z39, z40, z41, z46, z48, z50, z57, z59, z60, z61, z62, z63, z64, z97, z98, z99, z100, z101, z102, z103, z104, z105, z106, z107, z108, z109, z110, z111, z112, z113, z114, z115, z116, z117, z118, z119, z120, z121, z122, z128, z132, z200, z240, z255, z372, z390625, z400, z420, z421, z422, z662, z900, z940, z999, z1000, z1024, z2000, z5860, z10000, z12345, z15625, z266240, z1048575, z1064960, z1103515245, z_m1, n_le, n_lt, n_eq, n_bit0, n_bit1, n_sbit0, n_shl, z_ltM, z_Mlt, z_leM, z_Mle, z_eqM, z_Meq, bI0, bI1, bI_01, bI_01t, bI_10, bI_10f, if_true, if_false, eq_self, reduceCtorEq, if_pos, if_neg, hPS, s0, e19]
    · rw [rv_sI_k _ _ (by omega)]; exact g1 c (by omega)
    · by_cases ci : c = i
      · subst ci; exact rv_sI_eq _ _ _ _
      · rw [rv_sI_k _ _ ci]; exact r1 c (by omega)
  · obtain ⟨S1, x2⟩ := x
    obtain ⟨rfl, ⟨f1, g1⟩, r1⟩ := hx
    have f1 : one (p + 3) S S1 := f1
    have hB1 := f1.B hB
    have hPS := PS_of hB1 hpb
    have s0 : S1.2.1 p 0 = nI (vC m) := (congrFun (f1.2.2 p (by omega)) 0).trans h0
    refine ⟨S1, ?_, f1, r1⟩
    show cX6_rename_2 n (q + 1) S1 p (nI w) (oI o) (nI (vC m)) = _
    rw [cX6_rename_2]
    simp (disch := first | assumption | omega) only [tk_gI, tk_gL, tk_gR, tk_pI, tk_pL, rv_aI, rv_aL, rv_aR, rv_uI, rv_uL, rv_uB, rv_uZ, pu_ckI, pu_ckL, pu_lnI, pu_lnL, tk_rI, tk_rL, Option.bind_some, Option.map_some, rv_lt, tk_ix, z0, z1, z2, z3, z4, z5, z6, z7, z8, z9, z10, z11, z12, z13, z15, z16, z17, z18, z20, z21, z23, z24, z25, z31, z32, z39, z40, z41, z46, z48, z50, z57, z59, z60, z61, z62, z63, z64, z97, z98, z99, z100, z101, z102, z103, z104, z105, z106, z107, z108, z109, z110, z111, z112, z113, z114, z115, z116, z117, z118, z119, z120, z121, z122, z128, z132, z200, z240, z255, z372, z390625, z400, z420, z421, z422, z662, z900, z940, z999, z1000, z1024, z2000, z5860, z10000, z12345, z15625, z266240, z1048575, z1064960, z1103515245, z_m1, n_le, n_lt, n_eq, n_bit0, n_bit1, n_sbit0, n_shl, z_ltM, z_Mlt, z_leM, z_Mle, z_eqM, z_Meq, bI0, bI1, bI_01, bI_01t, bI_10, bI_10f, if_true, if_false, eq_self, reduceCtorEq, if_pos, if_neg, hPS, s0]
theorem rn_fl (law w h : Nat) (l : List Nat) : rn law w h l = l.flatMap (rnO w (if law = 0 then none else some h)) := by
  induction l with
  | nil => rw [rn_nil]; rfl
  | cons x t ih =>
    rw [rn_cons, List.flatMap_cons, ih]
    unfold rnO
    by_cases c1 : x = w
    · by_cases c2 : law = 0
      · simp [c1, c2]
      · simp [c1, c2]
    · simp [c1]
end
