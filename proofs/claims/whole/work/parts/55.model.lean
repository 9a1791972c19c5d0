/-! FRAMES by place: of the objects 64, 111, 118, 189 each field by itself, of all others the row -/
def lc (a k : Nat) : Nat := if a = 64 ∨ a = 65 ∨ a = 111 ∨ a = 118 ∨ a = 189 then 1000 * a + k else a
def rvr (D : List Nat) (S S' : rvS) : Prop := (∀ q ∈ rv_rf0, S'.2.2.2 q.1 q.2.1 = S.2.2.2 q.1 q.2.1) ∧ ∀ a k, lc a k ∉ D → S'.2.2.2 a k = S.2.2.2 a k
def rvf (D : List Nat) (S S' : rvS) : Prop := S'.1 = S.1 ∧ rvr D S S' ∧ ∀ a k, lc a k ∉ D → S'.2.1 a k = S.2.1 a k ∧ S'.2.2.1 a k = S.2.2.1 a k
theorem rvr.rf {D : List Nat} {S S' : rvS} (h : S'.2.2.2 = S.2.2.2) : rvr D S S' := ⟨fun _ _ => by rw [h], fun _ _ _ => by rw [h]⟩
theorem rvr.tr {D : List Nat} {S S1 S2 : rvS} (h : rvr D S S1) (k : rvr D S1 S2) : rvr D S S2 := ⟨fun q hq => (k.1 q hq).trans (h.1 q hq), fun a j ha => (k.2 a j ha).trans (h.2 a j ha)⟩
theorem rvf.rf (D : List Nat) (S : rvS) : rvf D S S := ⟨rfl, rvr.rf rfl, fun _ _ _ => ⟨rfl, rfl⟩⟩
theorem rvf.tr {D : List Nat} {S S1 S2 : rvS} (h : rvf D S S1) (k : rvf D S1 S2) : rvf D S S2 := ⟨k.1.trans h.1, h.2.1.tr k.2.1, fun a j ha => ⟨(k.2.2 a j ha).1.trans (h.2.2 a j ha).1, (k.2.2 a j ha).2.trans (h.2.2 a j ha).2⟩⟩
theorem rvf.mono {D D' : List Nat} {S S' : rvS} (h : rvf D S S') (hd : D.all (fun d => D'.elem d) = true) : rvf D' S S' := ⟨h.1, ⟨h.2.1.1, fun a k ha => h.2.1.2 a k (fun z => ha (List.elem_iff.mp (List.all_eq_true.mp hd _ z)))⟩, fun a k ha => h.2.2 a k (fun z => ha (List.elem_iff.mp (List.all_eq_true.mp hd _ z)))⟩
theorem rvf.sI (S : rvS) (a k : Nat) (v : Int32) : rvf [lc a k] S (rv_sI S a k v) := ⟨rfl, rvr.rf rfl, fun b j hb => ⟨by
  refine if_neg (fun z => hb ?_)
  rw [z.1, z.2]
  exact List.mem_singleton_self _, rfl⟩⟩
theorem rvf.sL (S : rvS) (a k : Nat) (v : Int64) : rvf [lc a k] S (rv_sL S a k v) := ⟨rfl, rvr.rf rfl, fun b j hb => ⟨rfl, by
  refine if_neg (fun z => hb ?_)
  rw [z.1, z.2]
  exact List.mem_singleton_self _⟩⟩
/-- a row that is no object told by fields -/
def rwb (a : Nat) : Bool := !(a == 64 || a == 65 || a == 111 || a == 118 || a == 189)
theorem lc_row {a : Nat} (h : rwb a = true) (k : Nat) : lc a k = a := by
  unfold lc
  rw [if_neg]
  rintro (z | z | z | z | z) <;> (rw [z] at h; cases h)
theorem rvf.sIr (S : rvS) {a : Nat} (k : Nat) (v : Int32) (h : rwb a = true) : rvf [a] S (rv_sI S a k v) := by
  have := rvf.sI S a k v
  rwa [lc_row h] at this
theorem rvf.sLr (S : rvS) {a : Nat} (k : Nat) (v : Int64) (h : rwb a = true) : rvf [a] S (rv_sL S a k v) := by
  have := rvf.sL S a k v
  rwa [lc_row h] at this
theorem rvf.row {D : List Nat} {S S' : rvS} (h : rvf D S S') {a : Nat} (h1 : rwb a = true) (h2 : D.elem a = false) (k : Nat) : S'.2.1 a k = S.2.1 a k := (h.2.2 a k (by
  rw [lc_row h1]
  intro z
  rw [List.elem_iff.mpr z] at h2
  cases h2)).1
theorem rvf.rowL {D : List Nat} {S S' : rvS} (h : rvf D S S') {a : Nat} (h1 : rwb a = true) (h2 : D.elem a = false) (k : Nat) : S'.2.2.1 a k = S.2.2.1 a k := (h.2.2 a k (by
  rw [lc_row h1]
  intro z
  rw [List.elem_iff.mpr z] at h2
  cases h2)).2
theorem rvf.at {D : List Nat} {S S' : rvS} (h : rvf D S S') {a k : Nat} (h2 : D.elem (lc a k) = false) : S'.2.1 a k = S.2.1 a k := (h.2.2 a k (fun z => by
  rw [List.elem_iff.mpr z] at h2
  cases h2)).1
theorem rvf.atL {D : List Nat} {S S' : rvS} (h : rvf D S S') {a k : Nat} (h2 : D.elem (lc a k) = false) : S'.2.2.1 a k = S.2.2.1 a k := (h.2.2 a k (fun z => by
  rw [List.elem_iff.mpr z] at h2
  cases h2)).2
theorem rvf.B {D : List Nat} {S S' : rvS} (h : rvf D S S') (hB : rv_B S) : rv_B S' := by
  obtain ⟨h1, h2, -⟩ := h
  refine ⟨by rw [h1]; exact hB.1, fun q hq => by rw [h2.1 q hq]; exact hB.2 q hq⟩
theorem rvf.rowR {D : List Nat} {S S' : rvS} (h : rvf D S S') {a : Nat} (h1 : rwb a = true) (h2 : D.elem a = false) (k : Nat) : S'.2.2.2 a k = S.2.2.2 a k := h.2.1.2 a k (by
  rw [lc_row h1]
  intro z
  rw [List.elem_iff.mpr z] at h2
  cases h2)
/-! THE REFERENCE: its row is m -/
def MR (S : rvS) (m : Nat → Nat) : Prop := ∀ k, k < 420 → S.2.1 191 k = nI (m k)
theorem MR.f {D : List Nat} {S S' : rvS} {m : Nat → Nat} (h : MR S m) (f : rvf D S S') (hd : D.elem 191 = false) : MR S' m := fun k hk => by rw [f.row rfl hd k]; exact h k hk
section
variable {n : Nat} {S : rvS} {m : Nat → Nat}
theorem bo_bI (b : Bool) : rv_bo (bI b) = some (bI b) := by cases b <;> rfl
theorem bo_0 : rv_bo (nI 0) = some (nI 0) := rfl
theorem bo_1 : rv_bo (nI 1) = some (nI 1) := rfl
theorem m_whos (hB : rv_B S) (hM : MR S m) : fnX13_whos n S 189 = some (nI (vW m)) := by
  have := hM 0 (by decide)
  simp (disch := first | assumption | omega) only [fnX13_whos, tk_gI, tk_gL, tk_gR, tk_pI, tk_pL, rv_aI, rv_aL, rv_aR, rv_uI, rv_uL, rv_uB, rv_uZ, pu_ckI, pu_ckL, pu_lnI, pu_lnL, tk_rI, tk_rL, Option.bind_some, Option.map_some, rv_lt, tk_ix, z0, z1, z2, z3, z4, z5, z6, z7, z8, z9, z10, z11, z12, z13, z15, z16, z17, z18, z20, z21, z23, z24, z25, z31, z32, z39, z40, z41, z46, z48, z50, z57, z59, z60, z61, z62, z63, z64, z97, z98, z99, z100, z101, z102, z103, z104, z105, z106, z107, z108, z109, z110, z111, z112, z113, z114, z115, z116, z117, z118, z119, z120, z121, z122, z128, z132, z200, z240, z255, z372, z390625, z400, z420, z421, z422, z662, z900, z940, z999, z1000, z1024, z2000, z5860, z10000, z12345, z15625, z266240, z1048575, z1064960, z1103515245, z_m1, rc_189 hB, rf_of hB (show (189, 14, 191) ∈ rv_rf0 by decide), rn_191 hB, this]
theorem m_coins (hB : rv_B S) (hM : MR S m) : fnX13_coins n S 189 = some (nI (vC m)) := by
  have := hM 1 (by decide)
  simp (disch := first | assumption | omega) only [fnX13_coins, tk_gI, tk_gL, tk_gR, tk_pI, tk_pL, rv_aI, rv_aL, rv_aR, rv_uI, rv_uL, rv_uB, rv_uZ, pu_ckI, pu_ckL, pu_lnI, pu_lnL, tk_rI, tk_rL, Option.bind_some, Option.map_some, rv_lt, tk_ix, z0, z1, z2, z3, z4, z5, z6, z7, z8, z9, z10, z11, z12, z13, z15, z16, z17, z18, z20, z21, z23, z24, z25, z31, z32, z39, z40, z41, z46, z48, z50, z57, z59, z60, z61, z62, z63, z64, z97, z98, z99, z100, z101, z102, z103, z104, z105, z106, z107, z108, z109, z110, z111, z112, z113, z114, z115, z116, z117, z118, z119, z120, z121, z122, z128, z132, z200, z240, z255, z372, z390625, z400, z420, z421, z422, z662, z900, z940, z999, z1000, z1024, z2000, z5860, z10000, z12345, z15625, z266240, z1048575, z1064960, z1103515245, z_m1, rc_189 hB, rf_of hB (show (189, 14, 191) ∈ rv_rf0 by decide), rn_191 hB, this]
theorem m_ofWho (hB : rv_B S) (hM : MR S m) {w i : Nat} (hw : w < 24) (hi : i < 5) : fnX13_ofWho n S 189 (nI w) (nI i) = some (nI (m (8 + 5 * w + i))) := by
  have := hM (8 + 5 * w + i) (by omega)
  simp (disch := first | assumption | omega) only [fnX13_ofWho, tk_gI, tk_gL, tk_gR, tk_pI, tk_pL, rv_aI, rv_aL, rv_aR, rv_uI, rv_uL, rv_uB, rv_uZ, pu_ckI, pu_ckL, pu_lnI, pu_lnL, tk_rI, tk_rL, Option.bind_some, Option.map_some, rv_lt, tk_ix, z0, z1, z2, z3, z4, z5, z6, z7, z8, z9, z10, z11, z12, z13, z15, z16, z17, z18, z20, z21, z23, z24, z25, z31, z32, z39, z40, z41, z46, z48, z50, z57, z59, z60, z61, z62, z63, z64, z97, z98, z99, z100, z101, z102, z103, z104, z105, z106, z107, z108, z109, z110, z111, z112, z113, z114, z115, z116, z117, z118, z119, z120, z121, z122, z128, z132, z200, z240, z255, z372, z390625, z400, z420, z421, z422, z662, z900, z940, z999, z1000, z1024, z2000, z5860, z10000, z12345, z15625, z266240, z1048575, z1064960, z1103515245, z_m1, rc_189 hB, rf_of hB (show (189, 14, 191) ∈ rv_rf0 by decide), rn_191 hB, nI_add, z_mul, this]
theorem m_ofCoin (hB : rv_B S) (hM : MR S m) {c i : Nat} (hc : c < 40) (hi : i < 6) : fnX13_ofCoin n S 189 (nI c) (nI i) = some (nI (m (132 + 6 * c + i))) := by
  have := hM (132 + 6 * c + i) (by omega)
  simp (disch := first | assumption | omega) only [fnX13_ofCoin, tk_gI, tk_gL, tk_gR, tk_pI, tk_pL, rv_aI, rv_aL, rv_aR, rv_uI, rv_uL, rv_uB, rv_uZ, pu_ckI, pu_ckL, pu_lnI, pu_lnL, tk_rI, tk_rL, Option.bind_some, Option.map_some, rv_lt, tk_ix, z0, z1, z2, z3, z4, z5, z6, z7, z8, z9, z10, z11, z12, z13, z15, z16, z17, z18, z20, z21, z23, z24, z25, z31, z32, z39, z40, z41, z46, z48, z50, z57, z59, z60, z61, z62, z63, z64, z97, z98, z99, z100, z101, z102, z103, z104, z105, z106, z107, z108, z109, z110, z111, z112, z113, z114, z115, z116, z117, z118, z119, z120, z121, z122, z128, z132, z200, z240, z255, z372, z390625, z400, z420, z421, z422, z662, z900, z940, z999, z1000, z1024, z2000, z5860, z10000, z12345, z15625, z266240, z1048575, z1064960, z1103515245, z_m1, rc_189 hB, rf_of hB (show (189, 14, 191) ∈ rv_rf0 by decide), rn_191 hB, nI_add, z_mul, this]
theorem a_1 (m : Nat → Nat) (w : Nat) : m (8 + 5 * w + 1) = mt m w := congrArg m (by omega)
theorem a_2 (m : Nat → Nat) (w : Nat) : m (8 + 5 * w + 2) = de m w := congrArg m (by omega)
theorem a_3 (m : Nat → Nat) (w : Nat) : m (8 + 5 * w + 3) = sg m w := congrArg m (by omega)
theorem a_4 (m : Nat → Nat) (w : Nat) : m (8 + 5 * w + 4) = ea m w := congrArg m (by omega)
theorem c_1 (m : Nat → Nat) (c : Nat) : m (132 + 6 * c + 1) = ow m c := congrArg m (by omega)
theorem c_2 (m : Nat → Nat) (c : Nat) : m (132 + 6 * c + 2) = mn m c := congrArg m (by omega)
theorem c_3 (m : Nat → Nat) (c i : Nat) : m (132 + 6 * c + (3 + i)) = rm m c i := congrArg m (by omega)
theorem m_at (hB : rv_B S) (hM : MR S m) {w : Nat} (hw : w < 24) : fnX13_ofWho n S 189 (nI w) (nI 0) = some (nI (at_ m w)) := m_ofWho hB hM hw (by decide)
theorem m_mt (hB : rv_B S) (hM : MR S m) {w : Nat} (hw : w < 24) : fnX13_ofWho n S 189 (nI w) (nI 1) = some (nI (mt m w)) := by rw [m_ofWho hB hM hw (by decide), a_1 m w]
theorem m_de (hB : rv_B S) (hM : MR S m) {w : Nat} (hw : w < 24) : fnX13_ofWho n S 189 (nI w) (nI 2) = some (nI (de m w)) := by rw [m_ofWho hB hM hw (by decide), a_2 m w]
theorem m_sg (hB : rv_B S) (hM : MR S m) {w : Nat} (hw : w < 24) : fnX13_ofWho n S 189 (nI w) (nI 3) = some (nI (sg m w)) := by rw [m_ofWho hB hM hw (by decide), a_3 m w]
theorem m_ea (hB : rv_B S) (hM : MR S m) {w : Nat} (hw : w < 24) : fnX13_ofWho n S 189 (nI w) (nI 4) = some (nI (ea m w)) := by rw [m_ofWho hB hM hw (by decide), a_4 m w]
theorem m_va (hB : rv_B S) (hM : MR S m) {c : Nat} (hc : c < 40) : fnX13_ofCoin n S 189 (nI c) (nI 0) = some (nI (va m c)) := m_ofCoin hB hM hc (by decide)
theorem m_ow (hB : rv_B S) (hM : MR S m) {c : Nat} (hc : c < 40) : fnX13_ofCoin n S 189 (nI c) (nI 1) = some (nI (ow m c)) := by rw [m_ofCoin hB hM hc (by decide), c_1 m c]
theorem m_mn (hB : rv_B S) (hM : MR S m) {c : Nat} (hc : c < 40) : fnX13_ofCoin n S 189 (nI c) (nI 2) = some (nI (mn m c)) := by rw [m_ofCoin hB hM hc (by decide), c_2 m c]
theorem m_rm (hB : rv_B S) (hM : MR S m) {c i : Nat} (hc : c < 40) (hi : i < 3) : fnX13_ofCoin n S 189 (nI c) (nI (3 + i)) = some (nI (rm m c i)) := by rw [m_ofCoin hB hM hc (by omega), c_3 m c i]
theorem m_isDead (hB : rv_B S) (hM : MR S m) (hp : okp m) {w : Nat} (hw : w < vW m) : fnX13_isDead n S 189 (nI w) = some (bI (decide (0 < de m w))) := by
  have h1 := hp.1
  have h2 := hp.2.2.1 w hw
  simp (disch := first | assumption | omega) only [fnX13_isDead, tk_gI, tk_gL, tk_gR, tk_pI, tk_pL, rv_aI, rv_aL, rv_aR, rv_uI, rv_uL, rv_uB, rv_uZ, pu_ckI, pu_ckL, pu_lnI, pu_lnL, tk_rI, tk_rL, Option.bind_some, Option.map_some, rv_lt, tk_ix, z0, z1, z2, z3, z4, z5, z6, z7, z8, z9, z10, z11, z12, z13, z15, z16, z17, z18, z20, z21, z23, z24, z25, z31, z32, z39, z40, z41, z46, z48, z50, z57, z59, z60, z61, z62, z63, z64, z97, z98, z99, z100, z101, z102, z103, z104, z105, z106, z107, z108, z109, z110, z111, z112, z113, z114, z115, z116, z117, z118, z119, z120, z121, z122, z128, z132, z200, z240, z255, z372, z390625, z400, z420, z421, z422, z662, z900, z940, z999, z1000, z1024, z2000, z5860, z10000, z12345, z15625, z266240, z1048575, z1064960, z1103515245, z_m1, n_le, n_lt, n_eq, n_bit0, n_bit1, n_sbit0, n_shl, z_ltM, z_Mlt, z_leM, z_Mle, z_eqM, z_Meq, bI0, bI1, bI_01, bI_01t, bI_10, bI_10f, if_true, if_false, eq_self, reduceCtorEq, rc_189 hB, m_de hB hM]
  by_cases c : 0 < de m w
  · rw [if_neg (by omega), decide_eq_true c]; rfl
  · rw [if_pos (by omega), decide_eq_false c]; rfl
theorem m_house (hB : rv_B S) (hM : MR S m) (hp : okp m) {a b : Nat} (ha : a < vW m) (hb : b < vW m) : fnX13_areOfOneHouse n S 189 (nI a) (nI b) = some (bI (sh m a b)) := by
  have h1 := hp.1
  have h2 := hp.2.2.1 a ha
  simp (disch := first | assumption | omega) only [fnX13_areOfOneHouse, tk_gI, tk_gL, tk_gR, tk_pI, tk_pL, rv_aI, rv_aL, rv_aR, rv_uI, rv_uL, rv_uB, rv_uZ, pu_ckI, pu_ckL, pu_lnI, pu_lnL, tk_rI, tk_rL, Option.bind_some, Option.map_some, rv_lt, tk_ix, z0, z1, z2, z3, z4, z5, z6, z7, z8, z9, z10, z11, z12, z13, z15, z16, z17, z18, z20, z21, z23, z24, z25, z31, z32, z39, z40, z41, z46, z48, z50, z57, z59, z60, z61, z62, z63, z64, z97, z98, z99, z100, z101, z102, z103, z104, z105, z106, z107, z108, z109, z110, z111, z112, z113, z114, z115, z116, z117, z118, z119, z120, z121, z122, z128, z132, z200, z240, z255, z372, z390625, z400, z420, z421, z422, z662, z900, z940, z999, z1000, z1024, z2000, z5860, z10000, z12345, z15625, z266240, z1048575, z1064960, z1103515245, z_m1, n_le, n_lt, n_eq, n_bit0, n_bit1, n_sbit0, n_shl, z_ltM, z_Mlt, z_leM, z_Mle, z_eqM, z_Meq, bI0, bI1, bI_01, bI_01t, bI_10, bI_10f, if_true, if_false, eq_self, reduceCtorEq, rc_189 hB, m_mt hB hM, nI_add]
  unfold sh
  by_cases c : a = b
  · rw [if_pos c, decide_eq_true c]; rfl
  · rw [if_neg c, decide_eq_false c]
    by_cases c2 : mt m a = b + 1
    · rw [if_pos c2, decide_eq_true c2]; rfl
    · rw [if_neg c2, decide_eq_false c2]; rfl
theorem m_has {x j : Nat} (hx : x < 2147483648) (hj : j < 32) : fnX13_has n S (nI x) (nI j) = some (bI (x.testBit j)) := by
  simp (disch := first | assumption | omega) only [fnX13_has, z0, z1, z2, z3, z4, z5, z6, z7, z8, z9, z10, z11, z12, z13, z15, z16, z17, z18, z20, z21, z23, z24, z25, z31, z32, z39, z40, z41, z46, z48, z50, z57, z59, z60, z61, z62, z63, z64, z97, z98, z99, z100, z101, z102, z103, z104, z105, z106, z107, z108, z109, z110, z111, z112, z113, z114, z115, z116, z117, z118, z119, z120, z121, z122, z128, z132, z200, z240, z255, z372, z390625, z400, z420, z421, z422, z662, z900, z940, z999, z1000, z1024, z2000, z5860, z10000, z12345, z15625, z266240, z1048575, z1064960, z1103515245, z_m1, n_le, n_lt, n_eq, n_bit0, n_bit1, n_sbit0, n_shl, z_ltM, z_Mlt, z_leM, z_Mle, z_eqM, z_Meq, bI0, bI1, bI_01, bI_01t, bI_10, bI_10f, if_true, if_false, eq_self, reduceCtorEq]
theorem m_near (hB : rv_B S) (hM : MR S m) (hp : okp m) {a b : Nat} (ha : a < 4) (hb : b < 4) : fnX13_areNear n S 189 (nI a) (nI b) = some (bI (nr m a b)) := by
  have h1 := (hp.2.2.2.2.1 a ha).1
  have : S.2.1 191 (128 + a) = nI (rd m a) := hM (128 + a) (by omega)
  simp (disch := first | assumption | omega) only [fnX13_areNear, tk_gI, tk_gL, tk_gR, tk_pI, tk_pL, rv_aI, rv_aL, rv_aR, rv_uI, rv_uL, rv_uB, rv_uZ, pu_ckI, pu_ckL, pu_lnI, pu_lnL, tk_rI, tk_rL, Option.bind_some, Option.map_some, rv_lt, tk_ix, z0, z1, z2, z3, z4, z5, z6, z7, z8, z9, z10, z11, z12, z13, z15, z16, z17, z18, z20, z21, z23, z24, z25, z31, z32, z39, z40, z41, z46, z48, z50, z57, z59, z60, z61, z62, z63, z64, z97, z98, z99, z100, z101, z102, z103, z104, z105, z106, z107, z108, z109, z110, z111, z112, z113, z114, z115, z116, z117, z118, z119, z120, z121, z122, z128, z132, z200, z240, z255, z372, z390625, z400, z420, z421, z422, z662, z900, z940, z999, z1000, z1024, z2000, z5860, z10000, z12345, z15625, z266240, z1048575, z1064960, z1103515245, z_m1, n_le, n_lt, n_eq, n_bit0, n_bit1, n_sbit0, n_shl, z_ltM, z_Mlt, z_leM, z_Mle, z_eqM, z_Meq, bI0, bI1, bI_01, bI_01t, bI_10, bI_10f, if_true, if_false, eq_self, reduceCtorEq, rc_189 hB, rf_of hB (show (189, 14, 191) ∈ rv_rf0 by decide), rn_191 hB, nI_add, this, m_has, bo_bI]
  rfl
/-! what is held -/
def HR (S : rvS) (o : Nat) (l : List Nat) : Prop := S.2.1 199 0 = nI o ∧ S.2.1 199 1 = nI l.length ∧ ∀ i x, l[i]? = some x → S.2.1 199 (2 + i) = nI x
theorem HR.f {D : List Nat} {S S' : rvS} {o : Nat} {l : List Nat} (h : HR S o l) (f : rvf D S S') (hd : D.elem 199 = false) : HR S' o l := ⟨by rw [f.row rfl hd]; exact h.1, by rw [f.row rfl hd]; exact h.2.1, fun i x e => by rw [f.row rfl hd]; exact h.2.2 i x e⟩
theorem m_hold (hn : 10 ≤ n) (hB : rv_B S) (hM : MR S m) {c : Nat} (hc : c < 40) : ∃ S', fnX13_hold n S 189 (nI c) = some S' ∧ rvf [199] S S' ∧ ∀ k, k < 5 → S'.2.1 199 k = nI (m (133 + 6 * c + k)) := by
  rw [fnX13_hold]
  refine lp (F := fun q (x : rvS × Int32) => cX13_hold_2 n q x.1 189 (nI c) x.2) (fun i x => x.2 = nI i ∧ rvf [199] S x.1 ∧ ∀ k, k < i → x.1.2.1 199 k = nI (m (133 + 6 * c + k))) (fun o => ∃ S', o = some S' ∧ rvf [199] S S' ∧ ∀ k, k < 5 → S'.2.1 199 k = nI (m (133 + 6 * c + k))) 5 (fun i x q hi hx => Or.inr ?_) (fun x q hx => ?_) (i := 0) (x := (S, 0)) (q := n) (Nat.zero_le _) ⟨rfl, rvf.rf _ _, fun k hk => absurd hk (Nat.not_lt_zero k)⟩ (by omega)
  · obtain ⟨S1, x2⟩ := x
    obtain ⟨rfl, h1, h2⟩ := hx
    have h1 : rvf [199] S S1 := h1
    have hB1 := h1.B hB
    have hM1 := hM.f h1 rfl
    refine ⟨(rv_sI S1 199 i (nI (m (133 + 6 * c + i))), nI (i + 1)), ?_, rfl, h1.tr (rvf.sIr S1 i _ rfl), fun k hk => ?_⟩
    · show cX13_hold_2 n (q + 1) S1 189 (nI c) (nI i) = cX13_hold_2 n q _ 189 (nI c) (nI (i + 1))
      have e : 132 + 6 * c + (1 + i) = 133 + 6 * c + i := by omega
      rw [cX13_hold_2]
      simp (disch := first | assumption | omega) only [tk_gI, tk_gL, tk_gR, tk_pI, tk_pL, rv_aI, rv_aL, rv_aR, rv_uI, rv_uL, rv_uB, rv_uZ, pu_ckI, pu_ckL, pu_lnI, pu_lnL, tk_rI, tk_rL, Option.bind_some, Option.map_some, rv_lt, tk_ix, z0, z1, z2, z3, z4, z5, z6, z7, z8, z9, z10, z11, z12, z13, z15, z16, z17, z18, z20, z21, z23, z24, z25, z31, z32, z39, z40, z41, z46, z48, z50, z57, z59, z60, z61, z62, z63, z64, z97, z98, z99, z100, z101, z102, z103, z104, z105, z106, z107, z108, z109, z110, z111, z112, z113, z114, z115, z116, z117, z118, z119, z120, z121, z122, z128, z132, z200, z240, z255, z372, z390625, z400, z420, z421, z422, z662, z900, z940, z999, z1000, z1024, z2000, z5860, z10000, z12345, z15625, z266240, z1048575, z1064960, z1103515245, z_m1, n_le, n_lt, n_eq, n_bit0, n_bit1, n_sbit0, n_shl, z_ltM, z_Mlt, z_leM, z_Mle, z_eqM, z_Meq, bI0, bI1, bI_01, bI_01t, bI_10, bI_10f, if_true, if_false, eq_self, reduceCtorEq, if_pos, if_neg, rc_189 hB1, rf_of hB1 (show (189, 24, 199) ∈ rv_rf0 by decide), rn_199 hB1, nI_add, m_ofCoin hB1 hM1, e]
    · show (rv_sI S1 199 i _).2.1 199 k = _
      by_cases e : k = i
      · subst e; exact rv_sI_eq _ _ _ _
      · rw [rv_sI_k _ _ e]
        exact h2 k (by omega)
  · obtain ⟨S1, x2⟩ := x
    obtain ⟨rfl, h1, h2⟩ := hx
    refine ⟨S1, ?_, h1, h2⟩
    show cX13_hold_2 n (q + 1) S1 189 (nI c) (nI 5) = _
    rw [cX13_hold_2]
    simp (disch := first | assumption | omega) only [z0, z1, z2, z3, z4, z5, z6, z7, z8, z9, z10, z11, z12, z13, z15, z16, z17, z18, z20, z21, z23, z24, z25, z31, z32, z39, z40, z41, z46, z48, z50, z57, z59, z60, z61, z62, z63, z64, z97, z98, z99, z100, z101, z102, z103, z104, z105, z106, z107, z108, z109, z110, z111, z112, z113, z114, z115, z116, z117, z118, z119, z120, z121, z122, z128, z132, z200, z240, z255, z372, z390625, z400, z420, z421, z422, z662, z900, z940, z999, z1000, z1024, z2000, z5860, z10000, z12345, z15625, z266240, z1048575, z1064960, z1103515245, z_m1, n_le, n_lt, n_eq, n_bit0, n_bit1, n_sbit0, n_shl, z_ltM, z_Mlt, z_leM, z_Mle, z_eqM, z_Meq, bI0, bI1, bI_01, bI_01t, bI_10, bI_10f, if_true, if_false, eq_self, reduceCtorEq, if_pos, if_neg]
theorem HR_of {c : Nat} (h : ∀ k, k < 5 → S.2.1 199 k = nI (m (133 + 6 * c + k))) (h3 : mn m c ≤ 3) : HR S (ow m c) (rl m c) := by
  refine ⟨h 0 (by decide), ?_, fun i x e => ?_⟩
  · rw [rl_len h3, h 1 (by decide)]
    exact congrArg (fun k => nI (m k)) (by omega)
  · have hi : i < mn m c := by
      rw [← rl_len h3]
      exact (List.getElem?_eq_some_iff.mp e).1
    rw [rl_get h3 hi] at e
    rw [h (2 + i) (by omega), ← Option.some.inj e]
    exact congrArg (fun k => nI (m k)) (by omega)
theorem m_whyNot (hn : 10 ≤ n) (hB : rv_B S) (hM : MR S m) (hp : okp m) {o : Nat} {l : List Nat} (hH : HR S o l) (ho : o < vW m) (hl : okl m l) {w : Nat} (hw : w < vW m) : fnX13_whyNot n S 189 (nI w) = some (nI (wy m o l w)) := by
  have h24 := hp.1
  have h4 := hp.2.1 w hw
  have h5 := hp.2.1 o ho
  obtain ⟨g0, g1, g2⟩ := hH
  have hl3 := hl.1
  have key : cX13_whyNot_28 n S n 189 (nI w) (nI 0) = some (nI (if l.any (fun x => sh m w x) then 3 else if nr m (at_ m w) (at_ m o) then 0 else 4)) := by
    refine lp (F := fun q (x : Int32) => cX13_whyNot_28 n S q 189 (nI w) x) (fun i x => x = nI i ∧ (l.take i).any (fun x => sh m w x) = false) (fun r => r = some (nI (if l.any (fun x => sh m w x) then 3 else if nr m (at_ m w) (at_ m o) then 0 else 4))) l.length (fun i x q hi hx => ?_) (fun x q hx => ?_) (i := 0) (x := (0 : Int32)) (q := n) (Nat.zero_le _) ⟨rfl, by rw [List.take_zero]; rfl⟩ (by omega)
    · obtain ⟨rfl, hx⟩ := hx
      have e0 := List.getElem?_eq_getElem hi
      have e1 := g2 i _ e0
      have e2 := hl.2 _ (List.getElem_mem hi)
      generalize l[i] = y at *
      have e3 : cX13_whyNot_28 n S (q + 1) 189 (nI w) (nI i) = if sh m w y = false then cX13_whyNot_28 n S q 189 (nI w) (nI (i + 1)) else some (nI 3) := by
        rw [cX13_whyNot_28]
        simp (disch := first | assumption | omega) only [tk_gI, tk_gL, tk_gR, tk_pI, tk_pL, rv_aI, rv_aL, rv_aR, rv_uI, rv_uL, rv_uB, rv_uZ, pu_ckI, pu_ckL, pu_lnI, pu_lnL, tk_rI, tk_rL, Option.bind_some, Option.map_some, rv_lt, tk_ix, z0, z1, z2, z3, z4, z5, z6, z7, z8, z9, z10, z11, z12, z13, z15, z16, z17, z18, z20, z21, z23, z24, z25, z31, z32, z39, z40, z41, z46, z48, z50, z57, z59, z60, z61, z62, z63, z64, z97, z98, z99, z100, z101, z102, z103, z104, z105, z106, z107, z108, z109, z110, z111, z112, z113, z114, z115, z116, z117, z118, z119, z120, z121, z122, z128, z132, z200, z240, z255, z372, z390625, z400, z420, z421, z422, z662, z900, z940, z999, z1000, z1024, z2000, z5860, z10000, z12345, z15625, z266240, z1048575, z1064960, z1103515245, z_m1, n_le, n_lt, n_eq, n_bit0, n_bit1, n_sbit0, n_shl, z_ltM, z_Mlt, z_leM, z_Mle, z_eqM, z_Meq, bI0, bI1, bI_01, bI_01t, bI_10, bI_10f, if_true, if_false, eq_self, reduceCtorEq, if_pos, if_neg, rc_189 hB, rf_of hB (show (189, 24, 199) ∈ rv_rf0 by decide), rn_199 hB, nI_add, g1, e1, m_house hB hM hp hw e2]
      have e4 : l.take (i + 1) = l.take i ++ [y] := by rw [List.take_succ, e0]; rfl
      show cX13_whyNot_28 n S (q + 1) 189 (nI w) (nI i) = _ ∨ _
      cases c : sh m w y
      · refine Or.inr ⟨nI (i + 1), ?_, rfl, ?_⟩
        · show cX13_whyNot_28 n S (q + 1) 189 (nI w) (nI i) = _
          rw [e3, if_pos c]
        · rw [e4, List.any_append, hx]
          simp [c]
      · left
        have : l.any (fun x => sh m w x) = true := List.any_eq_true.mpr ⟨y, List.mem_of_getElem? e0, c⟩
        rw [e3, if_neg (by rw [c]; decide), if_pos this]
    · obtain ⟨rfl, hx⟩ := hx
      rw [List.take_length] at hx
      show cX13_whyNot_28 n S (q + 1) 189 (nI w) (nI l.length) = _
      rw [cX13_whyNot_28, if_neg (show ¬ (l.any (fun x => sh m w x) = true) by rw [hx]; decide)]
      simp (disch := first | assumption | omega) only [cX13_whyNot_62, tk_gI, tk_gL, tk_gR, tk_pI, tk_pL, rv_aI, rv_aL, rv_aR, rv_uI, rv_uL, rv_uB, rv_uZ, pu_ckI, pu_ckL, pu_lnI, pu_lnL, tk_rI, tk_rL, Option.bind_some, Option.map_some, rv_lt, tk_ix, z0, z1, z2, z3, z4, z5, z6, z7, z8, z9, z10, z11, z12, z13, z15, z16, z17, z18, z20, z21, z23, z24, z25, z31, z32, z39, z40, z41, z46, z48, z50, z57, z59, z60, z61, z62, z63, z64, z97, z98, z99, z100, z101, z102, z103, z104, z105, z106, z107, z108, z109, z110, z111, z112, z113, z114, z115, z116, z117, z118, z119, z120, z121, z122, z128, z132, z200, z240, z255, z372, z390625, z400, z420, z421, z422, z662, z900, z940, z999, z1000, z1024, z2000, z5860, z10000, z12345, z15625, z266240, z1048575, z1064960, z1103515245, z_m1, n_le, n_lt, n_eq, n_bit0, n_bit1, n_sbit0, n_shl, z_ltM, z_Mlt, z_leM, z_Mle, z_eqM, z_Meq, bI0, bI1, bI_01, bI_01t, bI_10, bI_10f, if_true, if_false, eq_self, reduceCtorEq, if_pos, if_neg, rc_189 hB, rf_of hB (show (189, 24, 199) ∈ rv_rf0 by decide), rn_199 hB, nI_add, g1, g0, m_at hB hM, m_near hB hM hp h4 h5]
      cases nr m (at_ m w) (at_ m o) <;> rfl
  simp (disch := first | assumption | omega) only [fnX13_whyNot, tk_gI, tk_gL, tk_gR, tk_pI, tk_pL, rv_aI, rv_aL, rv_aR, rv_uI, rv_uL, rv_uB, rv_uZ, pu_ckI, pu_ckL, pu_lnI, pu_lnL, tk_rI, tk_rL, Option.bind_some, Option.map_some, rv_lt, tk_ix, z0, z1, z2, z3, z4, z5, z6, z7, z8, z9, z10, z11, z12, z13, z15, z16, z17, z18, z20, z21, z23, z24, z25, z31, z32, z39, z40, z41, z46, z48, z50, z57, z59, z60, z61, z62, z63, z64, z97, z98, z99, z100, z101, z102, z103, z104, z105, z106, z107, z108, z109, z110, z111, z112, z113, z114, z115, z116, z117, z118, z119, z120, z121, z122, z128, z132, z200, z240, z255, z372, z390625, z400, z420, z421, z422, z662, z900, z940, z999, z1000, z1024, z2000, z5860, z10000, z12345, z15625, z266240, z1048575, z1064960, z1103515245, z_m1, n_le, n_lt, n_eq, n_bit0, n_bit1, n_sbit0, n_shl, z_ltM, z_Mlt, z_leM, z_Mle, z_eqM, z_Meq, bI0, bI1, bI_01, bI_01t, bI_10, bI_10f, if_true, if_false, eq_self, reduceCtorEq, rc_189 hB, rf_of hB (show (189, 24, 199) ∈ rv_rf0 by decide), rn_199 hB, g0, m_isDead hB hM hp hw, m_house hB hM hp hw ho, key]
  unfold wy
  by_cases c1 : 0 < de m w
  · rw [decide_eq_true c1, if_pos c1]; rfl
  · rw [decide_eq_false c1, if_neg c1]
    cases sh m w o
    · rfl
    · rfl
theorem m_why (hn : 10 ≤ n) (hB : rv_B S) (hM : MR S m) (hp : okp m) (hc : okc m) {c w : Nat} (h : c < vC m) (hw : w < vW m) : ∃ S', fnX13_whyNot_ n S 189 (nI c) (nI w) = some (nI (wy m (ow m c) (rl m c) w), S') ∧ rvf [199] S S' ∧ HR S' (ow m c) (rl m c) := by
  have h40 := hc.1
  have h1 := (hc.2.2 c h).2.2
  have h3 := hc.2.1
  obtain ⟨S', e, f, g⟩ := m_hold hn hB hM (c := c) (by omega)
  have hH := HR_of (m := m) (c := c) g (by omega)
  refine ⟨S', ?_, f, hH⟩
  have := m_whyNot hn (f.B hB) (hM.f f rfl) hp hH h1.1 (hc.l h) hw
  simp (disch := first | assumption | omega) only [fnX13_whyNot_, tk_gI, tk_gL, tk_gR, tk_pI, tk_pL, rv_aI, rv_aL, rv_aR, rv_uI, rv_uL, rv_uB, rv_uZ, pu_ckI, pu_ckL, pu_lnI, pu_lnL, tk_rI, tk_rL, Option.bind_some, Option.map_some, rv_lt, tk_ix, rc_189 hB, e, rc_189 (f.B hB), this]
end
