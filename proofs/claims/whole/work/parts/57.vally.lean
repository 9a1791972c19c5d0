/-! THE VALLEY, what is asked of it: the class -/
section
variable {n : Nat} {S : rvS} {v : Nat} {m : Nat → Nat}
theorem bp_s {α β : Type} (x : α) (S : rvS) (f : α → rvS → Option β) : rv_bp (some (x, S)) f = f x S := rfl
theorem k9_whyNot (hn : 10 ≤ n) (hB : rv_B S) (hv : vb v) (hR : CR S v m) (hk : okm m) {c w : Nat} (h : c < vC m) (hw : w < vW m) : fnX9_whyNot n S v (nI c) (nI w) = some (nI (wy m (ow m c) (rl m c) w)) := by
  have hVS := VS_of hB hv; have hFS := FS_of hB hv.f; have hPS := PS_of hB hv.p; obtain ⟨hF, hP, hD⟩ := hR; obtain ⟨hp, hc, hd⟩ := hk
  have h1 := hc.1
  have h2 := (hc.2.2 c h).2.2.1
  simp (disch := first | assumption | omega) only [fnX9_whyNot, tk_gI, tk_gL, tk_gR, tk_pI, tk_pL, rv_aI, rv_aL, rv_aR, rv_uI, rv_uL, rv_uB, rv_uZ, pu_ckI, pu_ckL, pu_lnI, pu_lnL, tk_rI, tk_rL, Option.bind_some, Option.map_some, rv_lt, tk_ix, z0, z1, z2, z3, z4, z5, z6, z7, z8, z9, z10, z11, z12, z13, z15, z16, z17, z18, z20, z21, z23, z24, z25, z31, z32, z39, z40, z41, z46, z48, z50, z57, z59, z60, z61, z62, z63, z64, z97, z98, z99, z100, z101, z102, z103, z104, z105, z106, z107, z108, z109, z110, z111, z112, z113, z114, z115, z116, z117, z118, z119, z120, z121, z122, z128, z132, z200, z240, z255, z372, z390625, z400, z420, z421, z422, z662, z900, z940, z999, z1000, z1024, z2000, z5860, z10000, z12345, z15625, z266240, z1048575, z1064960, z1103515245, z_m1, n_le, n_lt, n_eq, n_bit0, n_bit1, n_sbit0, n_shl, z_ltM, z_Mlt, z_leM, z_Mle, z_eqM, z_Meq, bI0, bI1, bI_01, bI_01t, bI_10, bI_10f, if_true, if_false, eq_self, reduceCtorEq, hVS, hPS, hFS, hP, k_hasC hPS hP hc h, k_whyNot hn hFS hF hp h2 (hc.l h) hw]
theorem k9_goers (hn : 10 ≤ n) (hB : rv_B S) (hv : vb v) (hR : CR S v m) (hk : okm m) {c : Nat} (h : c < vC m) : fnX9_goers n S v (nI c) = some (nI (gs m (ow m c) (rl m c))) := by
  have hVS := VS_of hB hv; have hFS := FS_of hB hv.f; have hPS := PS_of hB hv.p; obtain ⟨hF, hP, hD⟩ := hR; obtain ⟨hp, hc, hd⟩ := hk
  have h1 := hc.1
  have h2 := (hc.2.2 c h).2.2.1
  simp (disch := first | assumption | omega) only [fnX9_goers, tk_gI, tk_gL, tk_gR, tk_pI, tk_pL, rv_aI, rv_aL, rv_aR, rv_uI, rv_uL, rv_uB, rv_uZ, pu_ckI, pu_ckL, pu_lnI, pu_lnL, tk_rI, tk_rL, Option.bind_some, Option.map_some, rv_lt, tk_ix, z0, z1, z2, z3, z4, z5, z6, z7, z8, z9, z10, z11, z12, z13, z15, z16, z17, z18, z20, z21, z23, z24, z25, z31, z32, z39, z40, z41, z46, z48, z50, z57, z59, z60, z61, z62, z63, z64, z97, z98, z99, z100, z101, z102, z103, z104, z105, z106, z107, z108, z109, z110, z111, z112, z113, z114, z115, z116, z117, z118, z119, z120, z121, z122, z128, z132, z200, z240, z255, z372, z390625, z400, z420, z421, z422, z662, z900, z940, z999, z1000, z1024, z2000, z5860, z10000, z12345, z15625, z266240, z1048575, z1064960, z1103515245, z_m1, n_le, n_lt, n_eq, n_bit0, n_bit1, n_sbit0, n_shl, z_ltM, z_Mlt, z_leM, z_Mle, z_eqM, z_Meq, bI0, bI1, bI_01, bI_01t, bI_10, bI_10f, if_true, if_false, eq_self, reduceCtorEq, hVS, hPS, hFS, hP, k_hasC hPS hP hc h, k_goers hn hFS hF hp h2 (hc.l h)]
theorem k9_isCleared (hB : rv_B S) (hv : vb v) (hR : CR S v m) (hk : okm m) {k : Nat} (h : k < vD m) : fnX9_isCleared n S v (nI k) = some (bI (decide (0 < db m k 3))) := by
  have hVS := VS_of hB hv; have hFS := FS_of hB hv.f; have hPS := PS_of hB hv.p; obtain ⟨hF, hP, hD⟩ := hR; obtain ⟨hp, hc, hd⟩ := hk
  have h1 := hd.1
  have hb := bs_lt32 (fun k => decide (0 < db m k 3)) (n := vD m) (by omega)
  simp (disch := first | assumption | omega) only [fnX9_isCleared, tk_gI, tk_gL, tk_gR, tk_pI, tk_pL, rv_aI, rv_aL, rv_aR, rv_uI, rv_uL, rv_uB, rv_uZ, pu_ckI, pu_ckL, pu_lnI, pu_lnL, tk_rI, tk_rL, Option.bind_some, Option.map_some, rv_lt, tk_ix, z0, z1, z2, z3, z4, z5, z6, z7, z8, z9, z10, z11, z12, z13, z15, z16, z17, z18, z20, z21, z23, z24, z25, z31, z32, z39, z40, z41, z46, z48, z50, z57, z59, z60, z61, z62, z63, z64, z97, z98, z99, z100, z101, z102, z103, z104, z105, z106, z107, z108, z109, z110, z111, z112, z113, z114, z115, z116, z117, z118, z119, z120, z121, z122, z128, z132, z200, z240, z255, z372, z390625, z400, z420, z421, z422, z662, z900, z940, z999, z1000, z1024, z2000, z5860, z10000, z12345, z15625, z266240, z1048575, z1064960, z1103515245, z_m1, n_le, n_lt, n_eq, n_bit0, n_bit1, n_sbit0, n_shl, z_ltM, z_Mlt, z_leM, z_Mle, z_eqM, z_Meq, bI0, bI1, bI_01, bI_01t, bI_10, bI_10f, if_true, if_false, eq_self, reduceCtorEq, hVS, hD, bs_bit, decide_eq_true h, Bool.true_and]
/-! forged: what stands twice, the owner on it, one whose village is not near the next one's -/
def dupL : List Nat → Bool
  | [] => false
  | a :: t => t.contains a || dupL t
def brk (m : Nat → Nat) : Nat → List Nat → Bool
  | _, [] => false
  | o, a :: t => !nr m (at_ m o) (at_ m a) || brk m a t
/-- bits as three answers -/
def b3 (a b c : Bool) : Nat := (if a then 1 else 0) + (if b then 2 else 0) + (if c then 4 else 0)
def fg (m : Nat → Nat) (o : Nat) (l : List Nat) : Nat := b3 (dupL l) (l.contains o) (brk m o l)
theorem b3_1 (a b c x : Bool) : b3 a b c ||| (if x then 1 else 0) = b3 (a || x) b c := by cases a <;> cases b <;> cases c <;> cases x <;> rfl
theorem b3_2 (a b c x : Bool) : b3 a b c ||| (if x then 2 else 0) = b3 a (b || x) c := by cases a <;> cases b <;> cases c <;> cases x <;> rfl
theorem b3_4 (a b c x : Bool) : b3 a b c ||| (if x then 4 else 0) = b3 a b (c || x) := by cases a <;> cases b <;> cases c <;> cases x <;> rfl
theorem k_neigh (hB : rv_B S) (hv : vb v) (hR : CR S v m) (hk : okm m) {a b : Nat} (ha : a < vW m) (hb : b < vW m) : fnX9_areNeighbours n S v (nI a) (nI b) = some (bI (nr m (at_ m a) (at_ m b))) := by
  have hVS := VS_of hB hv; have hFS := FS_of hB hv.f; have hPS := PS_of hB hv.p; obtain ⟨hF, hP, hD⟩ := hR; obtain ⟨hp, hc, hd⟩ := hk
  have h1 := hp.1
  simp (disch := first | assumption | omega) only [fnX9_areNeighbours, tk_gI, tk_gL, tk_gR, tk_pI, tk_pL, rv_aI, rv_aL, rv_aR, rv_uI, rv_uL, rv_uB, rv_uZ, pu_ckI, pu_ckL, pu_lnI, pu_lnL, tk_rI, tk_rL, Option.bind_some, Option.map_some, rv_lt, tk_ix, hVS, hFS, hF, bo_bI, k_villageOf hFS hF hp ha, k_villageOf hFS hF hp hb, k_areNear hFS hF hp (hp.2.1 a ha) (hp.2.1 b hb)]
theorem k_twice0 (hn : 10 ≤ n) (hB : rv_B S) (hv : vb v) (hR : CR S v m) (hk : okm m) {c : Nat} (h : c < vC m) (y : Int32) : fnX9_standsTwice n S v (nI c) (nI 0) y = some (bI (decide (nmI (rl m c) 1 = y) || decide (nmI (rl m c) 2 = y))) ∧ fnX9_standsTwice n S v (nI c) (nI 1) y = some (bI (decide (nmI (rl m c) 2 = y))) ∧ fnX9_standsTwice n S v (nI c) (nI 2) y = some (bI false) := by
  have hVS := VS_of hB hv; have hFS := FS_of hB hv.f; have hPS := PS_of hB hv.p; obtain ⟨hF, hP, hD⟩ := hR; obtain ⟨hp, hc, hd⟩ := hk
  have k1 := k_nameAt (n := n) hPS hP hp hc h (i := 1) (by decide)
  have k2 := k_nameAt (n := n) hPS hP hp hc h (i := 2) (by decide)
  refine ⟨?_, ?_, ?_⟩
  · rw [fnX9_standsTwice]
    refine un 4 (F := fun z => cX9_standsTwice_5 n S z v (nI c) y (nI 0 + 1)) (fun q => ?_) (by omega)
    show cX9_standsTwice_5 n S (q + 4) v (nI c) y (nI 0 + 1) = _
    simp (disch := first | assumption | omega) only [cX9_standsTwice_5, tk_gI, tk_gL, tk_gR, tk_pI, tk_pL, rv_aI, rv_aL, rv_aR, rv_uI, rv_uL, rv_uB, rv_uZ, pu_ckI, pu_ckL, pu_lnI, pu_lnL, tk_rI, tk_rL, Option.bind_some, Option.map_some, rv_lt, tk_ix, z0, z1, z2, z3, z4, z5, z6, z7, z8, z9, z10, z11, z12, z13, z15, z16, z17, z18, z20, z21, z23, z24, z25, z31, z32, z39, z40, z41, z46, z48, z50, z57, z59, z60, z61, z62, z63, z64, z97, z98, z99, z100, z101, z102, z103, z104, z105, z106, z107, z108, z109, z110, z111, z112, z113, z114, z115, z116, z117, z118, z119, z120, z121, z122, z128, z132, z200, z240, z255, z372, z390625, z400, z420, z421, z422, z662, z900, z940, z999, z1000, z1024, z2000, z5860, z10000, z12345, z15625, z266240, z1048575, z1064960, z1103515245, z_m1, n_le, n_lt, n_eq, n_bit0, n_bit1, n_sbit0, n_shl, z_ltM, z_Mlt, z_leM, z_Mle, z_eqM, z_Meq, bI0, bI1, bI_01, bI_01t, bI_10, bI_10f, if_true, if_false, eq_self, reduceCtorEq, if_pos, if_neg, nI_add, z_mul, z_sub, hVS, hPS, k1, k2, Nat.reduceAdd, Nat.zero_add]
    by_cases c1 : nmI (rl m c) 1 = y
    · rw [if_pos c1, decide_eq_true c1]; rfl
    · rw [if_neg c1, decide_eq_false c1]
      by_cases c2 : nmI (rl m c) 2 = y
      · rw [if_pos c2, decide_eq_true c2]; rfl
      · rw [if_neg c2, decide_eq_false c2]; rfl
  · rw [fnX9_standsTwice]
    refine un 4 (F := fun z => cX9_standsTwice_5 n S z v (nI c) y (nI 1 + 1)) (fun q => ?_) (by omega)
    show cX9_standsTwice_5 n S (q + 4) v (nI c) y (nI 1 + 1) = _
    simp (disch := first | assumption | omega) only [cX9_standsTwice_5, tk_gI, tk_gL, tk_gR, tk_pI, tk_pL, rv_aI, rv_aL, rv_aR, rv_uI, rv_uL, rv_uB, rv_uZ, pu_ckI, pu_ckL, pu_lnI, pu_lnL, tk_rI, tk_rL, Option.bind_some, Option.map_some, rv_lt, tk_ix, z0, z1, z2, z3, z4, z5, z6, z7, z8, z9, z10, z11, z12, z13, z15, z16, z17, z18, z20, z21, z23, z24, z25, z31, z32, z39, z40, z41, z46, z48, z50, z57, z59, z60, z61, z62, z63, z64, z97, z98, z99, z100, z101, z102, z103, z104, z105, z106, z107, z108, z109, z110, z111, z112, z113, z114, z115, z116, z117, z118, z119, z120, z121, z122, z128, z132, z200, z240, z255, z372, z390625, z400, z420, z421, z422, z662, z900, z940, z999, z1000, z1024, z2000, z5860, z10000, z12345, z15625, z266240, z1048575, z1064960, z1103515245, z_m1, n_le, n_lt, n_eq, n_bit0, n_bit1, n_sbit0, n_shl, z_ltM, z_Mlt, z_leM, z_Mle, z_eqM, z_Meq, bI0, bI1, bI_01, bI_01t, bI_10, bI_10f, if_true, if_false, eq_self, reduceCtorEq, if_pos, if_neg, nI_add, z_mul, z_sub, hVS, hPS, k2, Nat.reduceAdd, Nat.zero_add]
    by_cases c2 : nmI (rl m c) 2 = y
    · rw [if_pos c2, decide_eq_true c2]; rfl
    · rw [if_neg c2, decide_eq_false c2]; rfl
  · rw [fnX9_standsTwice]
    refine un 4 (F := fun z => cX9_standsTwice_5 n S z v (nI c) y (nI 2 + 1)) (fun q => ?_) (by omega)
    show cX9_standsTwice_5 n S (q + 4) v (nI c) y (nI 2 + 1) = _
    simp (disch := first | assumption | omega) only [cX9_standsTwice_5, tk_gI, tk_gL, tk_gR, tk_pI, tk_pL, rv_aI, rv_aL, rv_aR, rv_uI, rv_uL, rv_uB, rv_uZ, pu_ckI, pu_ckL, pu_lnI, pu_lnL, tk_rI, tk_rL, Option.bind_some, Option.map_some, rv_lt, tk_ix, z0, z1, z2, z3, z4, z5, z6, z7, z8, z9, z10, z11, z12, z13, z15, z16, z17, z18, z20, z21, z23, z24, z25, z31, z32, z39, z40, z41, z46, z48, z50, z57, z59, z60, z61, z62, z63, z64, z97, z98, z99, z100, z101, z102, z103, z104, z105, z106, z107, z108, z109, z110, z111, z112, z113, z114, z115, z116, z117, z118, z119, z120, z121, z122, z128, z132, z200, z240, z255, z372, z390625, z400, z420, z421, z422, z662, z900, z940, z999, z1000, z1024, z2000, z5860, z10000, z12345, z15625, z266240, z1048575, z1064960, z1103515245, z_m1, n_le, n_lt, n_eq, n_bit0, n_bit1, n_sbit0, n_shl, z_ltM, z_Mlt, z_leM, z_Mle, z_eqM, z_Meq, bI0, bI1, bI_01, bI_01t, bI_10, bI_10f, if_true, if_false, eq_self, reduceCtorEq, if_pos, if_neg, nI_add, z_mul, z_sub, Nat.reduceAdd]
    rfl
theorem k_fstep (hB : rv_B S) (hv : vb v) (hR : CR S v m) (hk : okm m) {c : Nat} (h : c < vC m) {i x bf : Nat} (hi : i < 3) (hx : x < vW m) (hbf : bf < vW m) {tw : Bool} (e1 : fnX6_nameAt n S (v + 8) (nI c) (nI i) = some (nI x)) (e2 : fnX9_standsTwice n S v (nI c) (nI i) (nI x) = some (bI tw)) (A B C : Bool) (q : Nat) : cX9_forgery_15 n S (q + 1) v (nI c) (nI (b3 A B C)) (nI bf) (nI i) = cX9_forgery_15 n S q v (nI c) (nI (b3 (A || tw) (B || decide (x = ow m c)) (C || !nr m (at_ m bf) (at_ m x)))) (nI x) (nI (i + 1)) := by
  have e3 := k_neigh (n := n) hB hv hR hk hbf hx
  have hVS := VS_of hB hv; have hFS := FS_of hB hv.f; have hPS := PS_of hB hv.p; obtain ⟨hF, hP, hD⟩ := hR; obtain ⟨hp, hc, hd⟩ := hk
  have h1 := hc.1
  have h24 := hp.1
  have h2 := (hc.2.2 c h).2.2.1
  have r1 := b3_1 A B C
  rw [cX9_forgery_15]
  simp (disch := first | assumption | omega) only [tk_gI, tk_gL, tk_gR, tk_pI, tk_pL, rv_aI, rv_aL, rv_aR, rv_uI, rv_uL, rv_uB, rv_uZ, pu_ckI, pu_ckL, pu_lnI, pu_lnL, tk_rI, tk_rL, Option.bind_some, Option.map_some, rv_lt, tk_ix, z0, z1, z2, z3, z4, z5, z6, z7, z8, z9, z10, z11, z12, z13, z15, z16, z17, z18, z20, z21, z23, z24, z25, z31, z32, z39, z40, z41, z46, z48, z50, z57, z59, z60, z61, z62, z63, z64, z97, z98, z99, z100, z101, z102, z103, z104, z105, z106, z107, z108, z109, z110, z111, z112, z113, z114, z115, z116, z117, z118, z119, z120, z121, z122, z128, z132, z200, z240, z255, z372, z390625, z400, z420, z421, z422, z662, z900, z940, z999, z1000, z1024, z2000, z5860, z10000, z12345, z15625, z266240, z1048575, z1064960, z1103515245, z_m1, n_le, n_lt, n_eq, n_bit0, n_bit1, n_sbit0, n_shl, z_ltM, z_Mlt, z_leM, z_Mle, z_eqM, z_Meq, bI0, bI1, bI_01, bI_01t, bI_10, bI_10f, if_true, if_false, eq_self, reduceCtorEq, if_pos, if_neg, hVS, hPS, hP, e1, e2, e3, cX9_forgery_57, cX9_forgery_79, cX9_forgery_97, nI_add]
  have g0 : ∀ y : Nat, nI y ||| nI 0 = nI y := fun y => by rw [fa_or, Nat.or_zero]
  have g1 : ∀ a b c, nI (b3 a b c) ||| nI 1 = nI (b3 true b c) := fun a b c => by
    have := b3_1 a b c true
    rw [if_pos rfl, Bool.or_true] at this
    rw [fa_or, this]
  have g2 : ∀ a b c, nI (b3 a b c) ||| nI 2 = nI (b3 a true c) := fun a b c => by
    have := b3_2 a b c true
    rw [if_pos rfl, Bool.or_true] at this
    rw [fa_or, this]
  have g4 : ∀ a b c, nI (b3 a b c) ||| nI 4 = nI (b3 a b true) := fun a b c => by
    have := b3_4 a b c true
    rw [if_pos rfl, Bool.or_true] at this
    rw [fa_or, this]
  cases tw <;> by_cases c1 : x = ow m c <;> cases nr m (at_ m bf) (at_ m x) <;> simp only [c1, g0, g1, g2, g4, if_true, if_false, decide_true, decide_false, Bool.or_true, Bool.or_false, Bool.not_true, Bool.not_false, reduceCtorEq]
theorem k_fnone (hB : rv_B S) (hv : vb v) {c : Nat} {i : Nat} (hi : i < 3) (y : Int32) {bf : Int32} (e1 : fnX6_nameAt n S (v + 8) (nI c) (nI i) = some iM) (q : Nat) : cX9_forgery_15 n S (q + 1) v (nI c) y bf (nI i) = cX9_forgery_15 n S q v (nI c) y bf (nI (i + 1)) := by
  have hVS := VS_of hB hv
  have hPS := PS_of hB hv.p
  rw [cX9_forgery_15]
  simp (disch := first | assumption | omega) only [tk_gI, tk_gL, tk_gR, tk_pI, tk_pL, rv_aI, rv_aL, rv_aR, rv_uI, rv_uL, rv_uB, rv_uZ, pu_ckI, pu_ckL, pu_lnI, pu_lnL, tk_rI, tk_rL, Option.bind_some, Option.map_some, rv_lt, tk_ix, z0, z1, z2, z3, z4, z5, z6, z7, z8, z9, z10, z11, z12, z13, z15, z16, z17, z18, z20, z21, z23, z24, z25, z31, z32, z39, z40, z41, z46, z48, z50, z57, z59, z60, z61, z62, z63, z64, z97, z98, z99, z100, z101, z102, z103, z104, z105, z106, z107, z108, z109, z110, z111, z112, z113, z114, z115, z116, z117, z118, z119, z120, z121, z122, z128, z132, z200, z240, z255, z372, z390625, z400, z420, z421, z422, z662, z900, z940, z999, z1000, z1024, z2000, z5860, z10000, z12345, z15625, z266240, z1048575, z1064960, z1103515245, z_m1, n_le, n_lt, n_eq, n_bit0, n_bit1, n_sbit0, n_shl, z_ltM, z_Mlt, z_leM, z_Mle, z_eqM, z_Meq, bI0, bI1, bI_01, bI_01t, bI_10, bI_10f, if_true, if_false, eq_self, reduceCtorEq, if_pos, if_neg, hVS, hPS, e1, nI_add]
theorem k_forgery (hn : 10 ≤ n) (hB : rv_B S) (hv : vb v) (hR : CR S v m) (hk : okm m) {c : Nat} (h : c < vC m) : fnX9_forgery n S v (nI c) = some (nI (fg m (ow m c) (rl m c))) := by
  have t0 := fun y => k_twice0 (n := n) hn hB hv hR hk h y
  have st := fun (i x bf : Nat) hi hx hbf (tw : Bool) e1 e2 A B C q => k_fstep (n := n) hB hv hR hk h (i := i) (x := x) (bf := bf) hi hx hbf (tw := tw) e1 e2 A B C q
  have sn := fun (i : Nat) hi y bf e1 q => k_fnone (n := n) (v := v) hB hv (c := c) (i := i) hi y (bf := bf) e1 q
  have hVS := VS_of hB hv; have hFS := FS_of hB hv.f; have hPS := PS_of hB hv.p; obtain ⟨hF, hP, hD⟩ := hR; obtain ⟨hp, hc, hd⟩ := hk
  have h1 := hc.1
  have h24 := hp.1
  have h2 := (hc.2.2 c h).2.2.1
  have k0 := k_nameAt (n := n) hPS hP hp hc h (i := 0) (by decide)
  have k1 := k_nameAt (n := n) hPS hP hp hc h (i := 1) (by decide)
  have k2 := k_nameAt (n := n) hPS hP hp hc h (i := 2) (by decide)
  have hl := hc.l h
  have hlw := hl.2
  have fin : ∀ q y bf, cX9_forgery_15 n S (q + 1) v (nI c) y bf (nI 3) = some y := fun q y bf => by
    rw [cX9_forgery_15]
    simp (disch := first | assumption | omega) only [z0, z1, z2, z3, z4, z5, z6, z7, z8, z9, z10, z11, z12, z13, z15, z16, z17, z18, z20, z21, z23, z24, z25, z31, z32, z39, z40, z41, z46, z48, z50, z57, z59, z60, z61, z62, z63, z64, z97, z98, z99, z100, z101, z102, z103, z104, z105, z106, z107, z108, z109, z110, z111, z112, z113, z114, z115, z116, z117, z118, z119, z120, z121, z122, z128, z132, z200, z240, z255, z372, z390625, z400, z420, z421, z422, z662, z900, z940, z999, z1000, z1024, z2000, z5860, z10000, z12345, z15625, z266240, z1048575, z1064960, z1103515245, z_m1, n_le, n_lt, n_eq, n_bit0, n_bit1, n_sbit0, n_shl, z_ltM, z_Mlt, z_leM, z_Mle, z_eqM, z_Meq, bI0, bI1, bI_01, bI_01t, bI_10, bI_10f, if_true, if_false, eq_self, reduceCtorEq, if_pos, if_neg]
  rw [fnX9_forgery]
  simp (disch := first | assumption | omega) only [tk_gI, tk_gL, tk_gR, tk_pI, tk_pL, rv_aI, rv_aL, rv_aR, rv_uI, rv_uL, rv_uB, rv_uZ, pu_ckI, pu_ckL, pu_lnI, pu_lnL, tk_rI, tk_rL, Option.bind_some, Option.map_some, rv_lt, tk_ix, z0, z1, z2, z3, z4, z5, z6, z7, z8, z9, z10, z11, z12, z13, z15, z16, z17, z18, z20, z21, z23, z24, z25, z31, z32, z39, z40, z41, z46, z48, z50, z57, z59, z60, z61, z62, z63, z64, z97, z98, z99, z100, z101, z102, z103, z104, z105, z106, z107, z108, z109, z110, z111, z112, z113, z114, z115, z116, z117, z118, z119, z120, z121, z122, z128, z132, z200, z240, z255, z372, z390625, z400, z420, z421, z422, z662, z900, z940, z999, z1000, z1024, z2000, z5860, z10000, z12345, z15625, z266240, z1048575, z1064960, z1103515245, z_m1, hVS, hPS, hP]
  refine un 4 (F := fun z => cX9_forgery_15 n S z v (nI c) (nI 0) (nI (ow m c)) (nI 0)) (fun q => ?_) (by omega)
  show cX9_forgery_15 n S (q + 3 + 1) v (nI c) (nI (b3 false false false)) (nI (ow m c)) (nI 0) = _
  rcases l3 hl.1 with e | ⟨x, e⟩ | ⟨x, y, e⟩ | ⟨x, y, z, e⟩ <;> rw [e] at k0 k1 k2 hlw t0 ⊢ <;> simp only [List.mem_cons, List.not_mem_nil, or_false, forall_eq_or_imp, forall_eq] at hlw <;> simp only [nm_0, nm_1, nm_2, nm_n] at k0 k1 k2 t0
  · rw [sn 0 (by decide) _ _ k0, sn 1 (by decide) _ _ k1, sn 2 (by decide) _ _ k2, fin]
    rfl
  · rw [st 0 x _ (by decide) hlw h2 _ k0 (t0 _).1, sn 1 (by decide) _ _ k1, sn 2 (by decide) _ _ k2, fin, fg]
    congr 3
    · simp [dupL, z_Meq (show x < 2147483648 by omega)]
    · simp [eq_comm]
    · simp [brk]
  · have e1 : (nI y = nI x) = (y = x) := n_eq (by omega) (by omega)
    rw [st 0 x _ (by decide) hlw.1 h2 _ k0 (t0 _).1, st 1 y _ (by decide) hlw.2 hlw.1 _ k1 (t0 _).2.1, sn 2 (by decide) _ _ k2, fin, fg]
    congr 3
    · simp [dupL, z_Meq (show x < 2147483648 by omega), z_Meq (show y < 2147483648 by omega), e1, eq_comm]
    · simp [eq_comm]
    · simp [brk]
  · have e1 : (nI y = nI x) = (y = x) := n_eq (by omega) (by omega)
    have e2 : (nI z = nI x) = (z = x) := n_eq (by omega) (by omega)
    have e3 : (nI z = nI y) = (z = y) := n_eq (by omega) (by omega)
    rw [st 0 x _ (by decide) hlw.1 h2 _ k0 (t0 _).1, st 1 y _ (by decide) hlw.2.1 hlw.1 _ k1 (t0 _).2.1, st 2 z _ (by decide) hlw.2.2 hlw.2.1 _ k2 (t0 _).2.2, fin, fg]
    congr 3
    · simp [dupL, e1, e2, e3, eq_comm]
    · simp [eq_comm, Bool.or_assoc]
    · simp [brk, Bool.or_assoc]
/-! coins that are stuck -/
abbrev stk (m : Nat → Nat) (c : Nat) : Bool := decide (gs m (ow m c) (rl m c) = 0)
theorem k_stuckCoins (hn : 50 ≤ n) (hB : rv_B S) (hv : vb v) (hR : CR S v m) (hk : okm m) : fnX9_stuckCoins n S v = some (lN (bs (stk m) (vC m))) := by
  have kg := fun c (h : c < vC m) => k9_goers (n := n) (by omega) hB hv hR hk h
  have hVS := VS_of hB hv; have hFS := FS_of hB hv.f; have hPS := PS_of hB hv.p; obtain ⟨hF, hP, hD⟩ := hR; obtain ⟨hp, hc, hd⟩ := hk
  have h1 := hc.1
  have h24 := hp.1
  rw [fnX9_stuckCoins]
  refine lpd (F := fun q (x : Int64 × Int32) => cX9_stuckCoins_4 n S q v x.1 x.2) (fun i => (lN (bs (stk m) i), nI i)) _ (vC m) (fun i q hi => ?_) (fun q => ?_) (i := 0) (q := n) (Nat.zero_le _) (by omega)
  · have h4 := gs_lt hp (ow m i) (rl m i)
    show cX9_stuckCoins_4 n S (q + 1) v (lN (bs _ i)) (nI i) = cX9_stuckCoins_4 n S q v (lN (bs _ (i + 1))) (nI (i + 1))
    rw [cX9_stuckCoins_4, bs_s]
    simp (disch := first | assumption | omega) only [tk_gI, tk_gL, tk_gR, tk_pI, tk_pL, rv_aI, rv_aL, rv_aR, rv_uI, rv_uL, rv_uB, rv_uZ, pu_ckI, pu_ckL, pu_lnI, pu_lnL, tk_rI, tk_rL, Option.bind_some, Option.map_some, rv_lt, tk_ix, z0, z1, z2, z3, z4, z5, z6, z7, z8, z9, z10, z11, z12, z13, z15, z16, z17, z18, z20, z21, z23, z24, z25, z31, z32, z39, z40, z41, z46, z48, z50, z57, z59, z60, z61, z62, z63, z64, z97, z98, z99, z100, z101, z102, z103, z104, z105, z106, z107, z108, z109, z110, z111, z112, z113, z114, z115, z116, z117, z118, z119, z120, z121, z122, z128, z132, z200, z240, z255, z372, z390625, z400, z420, z421, z422, z662, z900, z940, z999, z1000, z1024, z2000, z5860, z10000, z12345, z15625, z266240, z1048575, z1064960, z1103515245, z_m1, y0, y1, y27, y63, y96, y1099511627776, y69269232549888, n_le, n_lt, n_eq, n_bit0, n_bit1, n_sbit0, n_shl, z_ltM, z_Mlt, z_leM, z_Mle, z_eqM, z_Meq, bI0, bI1, bI_01, bI_01t, bI_10, bI_10f, if_true, if_false, eq_self, reduceCtorEq, if_pos, if_neg, hVS, hPS, hP, kg i hi, n_l, m_shl, m_shl2, fb_orL, nI_add, decide_eq_true_eq]
    by_cases c1 : gs m (ow m i) (rl m i) = 0
    · rw [if_pos c1, if_pos c1]
    · rw [if_neg c1, if_neg c1]
  · show cX9_stuckCoins_4 n S (q + 1) v (lN (bs _ (vC m))) (nI (vC m)) = _
    rw [cX9_stuckCoins_4]
    simp (disch := first | assumption | omega) only [tk_gI, tk_gL, tk_gR, tk_pI, tk_pL, rv_aI, rv_aL, rv_aR, rv_uI, rv_uL, rv_uB, rv_uZ, pu_ckI, pu_ckL, pu_lnI, pu_lnL, tk_rI, tk_rL, Option.bind_some, Option.map_some, rv_lt, tk_ix, z0, z1, z2, z3, z4, z5, z6, z7, z8, z9, z10, z11, z12, z13, z15, z16, z17, z18, z20, z21, z23, z24, z25, z31, z32, z39, z40, z41, z46, z48, z50, z57, z59, z60, z61, z62, z63, z64, z97, z98, z99, z100, z101, z102, z103, z104, z105, z106, z107, z108, z109, z110, z111, z112, z113, z114, z115, z116, z117, z118, z119, z120, z121, z122, z128, z132, z200, z240, z255, z372, z390625, z400, z420, z421, z422, z662, z900, z940, z999, z1000, z1024, z2000, z5860, z10000, z12345, z15625, z266240, z1048575, z1064960, z1103515245, z_m1, y0, y1, y27, y63, y96, y1099511627776, y69269232549888, n_le, n_lt, n_eq, n_bit0, n_bit1, n_sbit0, n_shl, z_ltM, z_Mlt, z_leM, z_Mle, z_eqM, z_Meq, bI0, bI1, bI_01, bI_01t, bI_10, bI_10f, if_true, if_false, eq_self, reduceCtorEq, if_pos, if_neg, hVS, hPS, hP]
theorem ct_s (p : Nat → Bool) (i : Nat) : fb_ct p (i + 1) = if p i = true then fb_ct p i + 1 else fb_ct p i := by
  rw [fb_ct_succ]
  cases p i <;> rfl
theorem k_freedIn (hn : 50 ≤ n) (hB : rv_B S) (hv : vb v) (hR : CR S v m) (hk : okm m) {u : Nat} (hu : u < 4) : fnX9_freedIn n S v (nI u) = some (nI (fb_ct (fun c => stk m c && nr m u (at_ m (ow m c))) (vC m))) := by
  have ks := k_stuckCoins (n := n) hn hB hv hR hk
  have hVS := VS_of hB hv; have hFS := FS_of hB hv.f; have hPS := PS_of hB hv.p; obtain ⟨hF, hP, hD⟩ := hR; obtain ⟨hp, hc, hd⟩ := hk
  have h1 := hc.1
  have h24 := hp.1
  have h64 := bs_64 (stk m) h1
  rw [fnX9_freedIn]
  simp (disch := first | assumption | omega) only [tk_gI, tk_gL, tk_gR, tk_pI, tk_pL, rv_aI, rv_aL, rv_aR, rv_uI, rv_uL, rv_uB, rv_uZ, pu_ckI, pu_ckL, pu_lnI, pu_lnL, tk_rI, tk_rL, Option.bind_some, Option.map_some, rv_lt, tk_ix, hVS, ks]
  refine lpd (F := fun q (x : Int32 × Int32) => cX9_freedIn_11 n S q v (nI u) (lN (bs (stk m) (vC m))) x.1 x.2) (fun i => (nI (fb_ct (fun c => stk m c && nr m u (at_ m (ow m c))) i), nI i)) _ (vC m) (fun i q hi => ?_) (fun q => ?_) (i := 0) (q := n) (Nat.zero_le _) (by omega)
  · have h2 := (hc.2.2 i hi).2.2.1
    have h3 := hp.2.1 _ h2
    show cX9_freedIn_11 n S (q + 1) v (nI u) (lN (bs (stk m) (vC m))) (nI (fb_ct _ i)) (nI i) = cX9_freedIn_11 n S q v (nI u) (lN (bs (stk m) (vC m))) (nI (fb_ct _ (i + 1))) (nI (i + 1))
    rw [cX9_freedIn_11, ct_s]
    simp (disch := first | assumption | omega) only [tk_gI, tk_gL, tk_gR, tk_pI, tk_pL, rv_aI, rv_aL, rv_aR, rv_uI, rv_uL, rv_uB, rv_uZ, pu_ckI, pu_ckL, pu_lnI, pu_lnL, tk_rI, tk_rL, Option.bind_some, Option.map_some, rv_lt, tk_ix, z0, z1, z2, z3, z4, z5, z6, z7, z8, z9, z10, z11, z12, z13, z15, z16, z17, z18, z20, z21, z23, z24, z25, z31, z32, z39, z40, z41, z46, z48, z50, z57, z59, z60, z61, z62, z63, z64, z97, z98, z99, z100, z101, z102, z103, z104, z105, z106, z107, z108, z109, z110, z111, z112, z113, z114, z115, z116, z117, z118, z119, z120, z121, z122, z128, z132, z200, z240, z255, z372, z390625, z400, z420, z421, z422, z662, z900, z940, z999, z1000, z1024, z2000, z5860, z10000, z12345, z15625, z266240, z1048575, z1064960, z1103515245, z_m1, y0, y1, y27, y63, y96, y1099511627776, y69269232549888, n_le, n_lt, n_eq, n_bit0, n_bit1, n_sbit0, n_shl, z_ltM, z_Mlt, z_leM, z_Mle, z_eqM, z_Meq, bI0, bI1, bI_01, bI_01t, bI_10, bI_10f, if_true, if_false, eq_self, reduceCtorEq, if_pos, if_neg, hVS, hPS, hFS, hF, hP, m_bit0, bs_bit, decide_eq_true hi, Bool.true_and, k_villageOf hFS hF hp h2, k_areNear hFS hF hp hu h3, nI_add]
    cases stk m i <;> cases nr m u (at_ m (ow m i)) <;> simp
  · show cX9_freedIn_11 n S (q + 1) v (nI u) _ (nI (fb_ct _ (vC m))) (nI (vC m)) = _
    rw [cX9_freedIn_11]
    simp (disch := first | assumption | omega) only [tk_gI, tk_gL, tk_gR, tk_pI, tk_pL, rv_aI, rv_aL, rv_aR, rv_uI, rv_uL, rv_uB, rv_uZ, pu_ckI, pu_ckL, pu_lnI, pu_lnL, tk_rI, tk_rL, Option.bind_some, Option.map_some, rv_lt, tk_ix, z0, z1, z2, z3, z4, z5, z6, z7, z8, z9, z10, z11, z12, z13, z15, z16, z17, z18, z20, z21, z23, z24, z25, z31, z32, z39, z40, z41, z46, z48, z50, z57, z59, z60, z61, z62, z63, z64, z97, z98, z99, z100, z101, z102, z103, z104, z105, z106, z107, z108, z109, z110, z111, z112, z113, z114, z115, z116, z117, z118, z119, z120, z121, z122, z128, z132, z200, z240, z255, z372, z390625, z400, z420, z421, z422, z662, z900, z940, z999, z1000, z1024, z2000, z5860, z10000, z12345, z15625, z266240, z1048575, z1064960, z1103515245, z_m1, y0, y1, y27, y63, y96, y1099511627776, y69269232549888, n_le, n_lt, n_eq, n_bit0, n_bit1, n_sbit0, n_shl, z_ltM, z_Mlt, z_leM, z_Mle, z_eqM, z_Meq, bI0, bI1, bI_01, bI_01t, bI_10, bI_10f, if_true, if_false, eq_self, reduceCtorEq, if_pos, if_neg, hVS, hPS, hP]
/-! the k-th of some, or how many -/
def ktl (p : Nat → Bool) (x : Int32) : Nat → Nat → Nat → Int32
  | 0, _, _ => iM
  | r + 1, c, i => if p c = true then (if nI i = x then nI c else ktl p x r (c + 1) (i + 1)) else ktl p x r (c + 1) i
theorem k_one1 {X : Nat} (hX : X < 18446744073709551616) (x : Int32) : ∀ (r q c i : Nat), c + r = 40 → r < q → cX12_countOrOne_15 n S q (lN X) x (nI i) (nI c) = some (ktl (fun k => X.testBit k) x r c i) := by
  intro r
  induction r with
  | zero =>
    intro q c i hc hq
    obtain ⟨q, rfl⟩ : ∃ q', q = q' + 1 := ⟨q - 1, by omega⟩
    rw [cX12_countOrOne_15, ktl]
    simp (disch := first | assumption | omega) only [z0, z1, z2, z3, z4, z5, z6, z7, z8, z9, z10, z11, z12, z13, z15, z16, z17, z18, z20, z21, z23, z24, z25, z31, z32, z39, z40, z41, z46, z48, z50, z57, z59, z60, z61, z62, z63, z64, z97, z98, z99, z100, z101, z102, z103, z104, z105, z106, z107, z108, z109, z110, z111, z112, z113, z114, z115, z116, z117, z118, z119, z120, z121, z122, z128, z132, z200, z240, z255, z372, z390625, z400, z420, z421, z422, z662, z900, z940, z999, z1000, z1024, z2000, z5860, z10000, z12345, z15625, z266240, z1048575, z1064960, z1103515245, z_m1, n_le, n_lt, n_eq, n_bit0, n_bit1, n_sbit0, n_shl, z_ltM, z_Mlt, z_leM, z_Mle, z_eqM, z_Meq, bI0, bI1, bI_01, bI_01t, bI_10, bI_10f, if_true, if_false, eq_self, reduceCtorEq, if_pos, if_neg]
  | succ r ih =>
    intro q c i hc hq
    obtain ⟨q, rfl⟩ : ∃ q', q = q' + 1 := ⟨q - 1, by omega⟩
    have i1 := ih q (c + 1) (i + 1) (by omega) (by omega)
    have i2 := ih q (c + 1) i (by omega) (by omega)
    rw [cX12_countOrOne_15, ktl]
    simp (disch := first | assumption | omega) only [tk_gI, tk_gL, tk_gR, tk_pI, tk_pL, rv_aI, rv_aL, rv_aR, rv_uI, rv_uL, rv_uB, rv_uZ, pu_ckI, pu_ckL, pu_lnI, pu_lnL, tk_rI, tk_rL, Option.bind_some, Option.map_some, rv_lt, tk_ix, z0, z1, z2, z3, z4, z5, z6, z7, z8, z9, z10, z11, z12, z13, z15, z16, z17, z18, z20, z21, z23, z24, z25, z31, z32, z39, z40, z41, z46, z48, z50, z57, z59, z60, z61, z62, z63, z64, z97, z98, z99, z100, z101, z102, z103, z104, z105, z106, z107, z108, z109, z110, z111, z112, z113, z114, z115, z116, z117, z118, z119, z120, z121, z122, z128, z132, z200, z240, z255, z372, z390625, z400, z420, z421, z422, z662, z900, z940, z999, z1000, z1024, z2000, z5860, z10000, z12345, z15625, z266240, z1048575, z1064960, z1103515245, z_m1, y0, y1, y27, y63, y96, y1099511627776, y69269232549888, n_le, n_lt, n_eq, n_bit0, n_bit1, n_sbit0, n_shl, z_ltM, z_Mlt, z_leM, z_Mle, z_eqM, z_Meq, bI0, bI1, bI_01, bI_01t, bI_10, bI_10f, if_true, if_false, eq_self, reduceCtorEq, if_pos, if_neg, m_bit0, nI_add, i1, i2]
    cases X.testBit c
    · simp
    · by_cases c1 : nI i = x <;> simp [c1]
theorem ktl_cong {p p' : Nat → Bool} (x : Int32) : ∀ (r c i : Nat), (∀ k, c ≤ k → k < c + r → p k = p' k) → ktl p x r c i = ktl p' x r c i := by
  intro r
  induction r with
  | zero => intro c i _; rfl
  | succ r ih =>
    intro c i h
    rw [ktl, ktl, h c (Nat.le_refl _) (by omega), ih (c + 1) (i + 1) (fun k h1 h2 => h k (by omega) (by omega)), ih (c + 1) i (fun k h1 h2 => h k (by omega) (by omega))]
theorem ktl_no {p : Nat → Bool} (x : Int32) : ∀ (r c i : Nat), (∀ k, c ≤ k → k < c + r → p k = false) → ktl p x r c i = iM := by
  intro r
  induction r with
  | zero => intro c i _; rfl
  | succ r ih =>
    intro c i h
    rw [ktl, h c (Nat.le_refl _) (by omega), if_neg (by decide), ih (c + 1) i (fun k h1 h2 => h k (by omega) (by omega))]
theorem ktl_more {p : Nat → Bool} (x : Int32) (s : Nat) : ∀ (r c i : Nat), (∀ k, c + r ≤ k → k < c + r + s → p k = false) → ktl p x (r + s) c i = ktl p x r c i := by
  intro r
  induction r with
  | zero => intro c i h; rw [Nat.zero_add, ktl_no x s c i (fun k h1 h2 => h k (by omega) (by omega))]; rfl
  | succ r ih =>
    intro c i h
    rw [show r + 1 + s = (r + s) + 1 by omega, ktl, ktl, ih (c + 1) (i + 1) (fun k h1 h2 => h k (by omega) (by omega)), ih (c + 1) i (fun k h1 h2 => h k (by omega) (by omega))]
/-- how many (x is NONE), or the x-th -/
def cO (p : Nat → Bool) (N : Nat) (x : Int32) : Int32 := if x = iM then nI (fb_ct p N) else ktl p x N 0 0
theorem k_one (hn : 50 ≤ n) {p : Nat → Bool} {N : Nat} (hN : N ≤ 40) (x : Int32) : fnX12_countOrOne n S (lN (bs p N)) x = some (cO p N x) := by
  have h64 := bs_64 p hN
  rw [fnX12_countOrOne, cO]
  by_cases c : x = iM
  · rw [if_pos c, if_pos (show x = -1 from c), pc_64 n S (by omega), Option.bind_some]
    have e : fb_ct (fun i => (bs p N).testBit i) 64 = fb_ct p N := by
      rw [show 64 = N + (64 - N) by omega, fb_ct_split, fb_ct_cong (q := p) (n := N) (fun k hk => by rw [bs_bit, decide_eq_true hk, Bool.true_and])]
      have z : fb_ct (fun k => (bs p N).testBit (N + k)) (64 - N) = 0 := fb_ct_zero.mpr (fun k _ => by rw [bs_bit, decide_eq_false (by omega), Bool.false_and])
      rw [z, Nat.add_zero]
    rw [e]
  · rw [if_neg c, if_neg (show ¬ x = -1 from c)]
    have h := k_one1 (n := n) (S := S) (show bs p N < 18446744073709551616 by omega) x 40 n 0 0 rfl (by omega)
    refine h.trans (congrArg some ?_)
    rw [show 40 = N + (40 - N) by omega, ktl_more x (40 - N) N 0 0 (fun k h1 h2 => by rw [bs_bit, decide_eq_false (by omega), Bool.false_and])]
    exact ktl_cong x N 0 0 (fun k h1 h2 => by rw [bs_bit, decide_eq_true (by omega), Bool.true_and])
/-! changes -/
def wnc (m : Nat → Nat) (c d : Nat) : Nat := if sg m (ow m d) = 0 then 1 else if ¬ wy m (ow m c) (rl m c) (ow m d) = 0 then 2 else if ¬ wy m (ow m d) (rl m d) (ow m c) = 0 then 3 else if va m d ≤ va m c - (va m c + vF m - 1) / vF m then 0 else 4
theorem fee_le {a f : Nat} (h1 : 1 ≤ a) (h2 : 1 ≤ f) : (a + f - 1) / f ≤ a := by
  have : a + f - 1 ≤ a * f := by
    obtain ⟨a', rfl⟩ : ∃ k, a = k + 1 := ⟨a - 1, by omega⟩
    rw [Nat.add_mul, Nat.one_mul]
    have : a' ≤ a' * f := Nat.le_mul_of_pos_right _ h2
    omega
  exact Nat.div_le_of_le_mul (by rw [Nat.mul_comm]; exact this)
theorem nz_ok {a : Nat} (h : 0 < a) (h2 : a < 2147483648) : rv_nz (nI a) = some () := if_neg (nI_ne0 h h2)
theorem k_fee (hB : rv_B S) (hv : vb v) (hR : CR S v m) (hk : okm m) {a : Nat} (ha : a ≤ 99) : fnX9_feeFor n S v (nI a) = some (nI ((a + vF m - 1) / vF m)) := by
  have hVS := VS_of hB hv; have hFS := FS_of hB hv.f; have hPS := PS_of hB hv.p; obtain ⟨hF, hP, hD⟩ := hR; obtain ⟨hp, hc, hd⟩ := hk
  have h1 := hd.2.1
  have h2 := hd.2.2.1
  simp (disch := first | assumption | omega) only [fnX9_feeFor, tk_gI, tk_gL, tk_gR, tk_pI, tk_pL, rv_aI, rv_aL, rv_aR, rv_uI, rv_uL, rv_uB, rv_uZ, pu_ckI, pu_ckL, pu_lnI, pu_lnL, tk_rI, tk_rL, Option.bind_some, Option.map_some, rv_lt, tk_ix, z0, z1, z2, z3, z4, z5, z6, z7, z8, z9, z10, z11, z12, z13, z15, z16, z17, z18, z20, z21, z23, z24, z25, z31, z32, z39, z40, z41, z46, z48, z50, z57, z59, z60, z61, z62, z63, z64, z97, z98, z99, z100, z101, z102, z103, z104, z105, z106, z107, z108, z109, z110, z111, z112, z113, z114, z115, z116, z117, z118, z119, z120, z121, z122, z128, z132, z200, z240, z255, z372, z390625, z400, z420, z421, z422, z662, z900, z940, z999, z1000, z1024, z2000, z5860, z10000, z12345, z15625, z266240, z1048575, z1064960, z1103515245, z_m1, n_le, n_lt, n_eq, n_bit0, n_bit1, n_sbit0, n_shl, z_ltM, z_Mlt, z_leM, z_Mle, z_eqM, z_Meq, bI0, bI1, bI_01, bI_01t, bI_10, bI_10f, if_true, if_false, eq_self, reduceCtorEq, if_pos, if_neg, hVS, hD, nz_ok, nI_add, z_sub, pk_div, Nat.reducePow]
theorem k_wnc (hn : 10 ≤ n) (hB : rv_B S) (hv : vb v) (hR : CR S v m) (hk : okm m) {c d : Nat} (h : c < vC m) (h' : d < vC m) : fnX9_whyNoChange n S v (nI c) (nI d) = some (nI (wnc m c d)) := by
  have kw := fun c w (h : c < vC m) (h2 : w < vW m) => k9_whyNot (n := n) hn hB hv hR hk h h2
  have kf := fun a (h : a ≤ 99) => k_fee (n := n) hB hv hR hk h
  have hVS := VS_of hB hv; have hFS := FS_of hB hv.f; have hPS := PS_of hB hv.p; obtain ⟨hF, hP, hD⟩ := hR; obtain ⟨hp, hc, hd⟩ := hk
  have h1 := hc.1
  have h24 := hp.1
  obtain ⟨v1, v2, v3, -⟩ := hc.2.2 c h
  obtain ⟨w1, w2, w3, -⟩ := hc.2.2 d h'
  have h5 := hp.2.2.1 _ w3
  have g1 := wy_le m (ow m c) (rl m c) (ow m d)
  have g2 := wy_le m (ow m d) (rl m d) (ow m c)
  have g3 := fee_le v1 hd.2.1
  have g4 : va m c - (va m c + vF m - 1) / vF m < 2147483648 := Nat.lt_of_le_of_lt (Nat.sub_le _ _) (by omega)
  simp (disch := first | assumption | omega) only [fnX9_whyNoChange, tk_gI, tk_gL, tk_gR, tk_pI, tk_pL, rv_aI, rv_aL, rv_aR, rv_uI, rv_uL, rv_uB, rv_uZ, pu_ckI, pu_ckL, pu_lnI, pu_lnL, tk_rI, tk_rL, Option.bind_some, Option.map_some, rv_lt, tk_ix, z0, z1, z2, z3, z4, z5, z6, z7, z8, z9, z10, z11, z12, z13, z15, z16, z17, z18, z20, z21, z23, z24, z25, z31, z32, z39, z40, z41, z46, z48, z50, z57, z59, z60, z61, z62, z63, z64, z97, z98, z99, z100, z101, z102, z103, z104, z105, z106, z107, z108, z109, z110, z111, z112, z113, z114, z115, z116, z117, z118, z119, z120, z121, z122, z128, z132, z200, z240, z255, z372, z390625, z400, z420, z421, z422, z662, z900, z940, z999, z1000, z1024, z2000, z5860, z10000, z12345, z15625, z266240, z1048575, z1064960, z1103515245, z_m1, n_le, n_lt, n_eq, n_bit0, n_bit1, n_sbit0, n_shl, z_ltM, z_Mlt, z_leM, z_Mle, z_eqM, z_Meq, bI0, bI1, bI_01, bI_01t, bI_10, bI_10f, if_true, if_false, eq_self, reduceCtorEq, hVS, hPS, hFS, hP, k_isStranger hFS hF hp w3, kw c _ h w3, kw d _ h' v3, kf _ v2, z_sub]
  unfold wnc
  by_cases c1 : sg m (ow m d) = 0
  · rw [if_pos c1, decide_eq_false (by omega)]; rfl
  · rw [if_neg c1, decide_eq_true (by omega)]
    by_cases c2 : wy m (ow m c) (rl m c) (ow m d) = 0
    · by_cases c3 : wy m (ow m d) (rl m d) (ow m c) = 0
      · by_cases c4 : va m d ≤ va m c - (va m c + vF m - 1) / vF m
        · simp [c2, c3, c4]
        · simp [c2, c3, c4]
      · simp [c2, c3]
    · simp [c2]
theorem k_goesOn (hn : 10 ≤ n) (hB : rv_B S) (hv : vb v) (hR : CR S v m) (hk : okm m) {c d w : Nat} (h : c < vC m) (h' : d < vC m) (hw : w < vW m) : fnX9_goesOnAfterChange n S v (nI c) (nI d) (nI w) = some (bI (decide (wy m (ow m c) (ps m (ow m d) (rl m d)) w = 0))) := by
  have hVS := VS_of hB hv; have hFS := FS_of hB hv.f; have hPS := PS_of hB hv.p; obtain ⟨hF, hP, hD⟩ := hR; obtain ⟨hp, hc, hd⟩ := hk
  have h1 := hc.1
  have h24 := hp.1
  have v3 := (hc.2.2 c h).2.2.1
  have w3 := (hc.2.2 d h').2.2.1
  have hl := ps_ok hc w3 (hc.l h')
  have g := wy_le m (ow m c) (ps m (ow m d) (rl m d)) w
  simp (disch := first | assumption | omega) only [fnX9_goesOnAfterChange, tk_gI, tk_gL, tk_gR, tk_pI, tk_pL, rv_aI, rv_aL, rv_aR, rv_uI, rv_uL, rv_uB, rv_uZ, pu_ckI, pu_ckL, pu_lnI, pu_lnL, tk_rI, tk_rL, Option.bind_some, Option.map_some, rv_lt, tk_ix, z0, z1, z2, z3, z4, z5, z6, z7, z8, z9, z10, z11, z12, z13, z15, z16, z17, z18, z20, z21, z23, z24, z25, z31, z32, z39, z40, z41, z46, z48, z50, z57, z59, z60, z61, z62, z63, z64, z97, z98, z99, z100, z101, z102, z103, z104, z105, z106, z107, z108, z109, z110, z111, z112, z113, z114, z115, z116, z117, z118, z119, z120, z121, z122, z128, z132, z200, z240, z255, z372, z390625, z400, z420, z421, z422, z662, z900, z940, z999, z1000, z1024, z2000, z5860, z10000, z12345, z15625, z266240, z1048575, z1064960, z1103515245, z_m1, n_le, n_lt, n_eq, n_bit0, n_bit1, n_sbit0, n_shl, z_ltM, z_Mlt, z_leM, z_Mle, z_eqM, z_Meq, bI0, bI1, bI_01, bI_01t, bI_10, bI_10f, if_true, if_false, eq_self, reduceCtorEq, hVS, hPS, hFS, hP, k_rimAfter hPS hP hp hc w3 (hc.l h'), k_whyNot hn hFS hF hp v3 hl hw]
  exact bI_10p _
end
