/-! BOTH SIDES: the class's valley, the reference's row, what is true of a state between calls -/
def okm (m : Nat → Nat) : Prop := okp m ∧ okc m ∧ okd m
def CR (S : rvS) (v : Nat) (m : Nat → Nat) : Prop := FR S (v + 1) m ∧ PR S (v + 8) m ∧ DR S v m
def MRL (S : rvS) (m : Nat → Nat) : Prop := ∀ k, k < 420 → (if S.2.1 189 22 = 0 then rv_pl k else S.2.1 191 k) = nI (m k)
/-- a word's letters (1 to 26) as the class numbers it, as the reference does -/
def c32 (l : List Nat) : Nat := l.foldl (fun v x => 32 * v + x) 0
def c27 (l : List Nat) : Nat := l.foldl (fun v x => 27 * v + x) 0
def NC (S : rvS) (v : Nat) (m : Nat → Nat) (wd : Nat → List Nat) : Prop := ∀ w, w < vW m → S.2.2.1 (v + 5) w = if w < m 6 then lN (c32 (wd w)) else lN 0
def NM (S : rvS) (m : Nat → Nat) (wd : Nat → List Nat) : Prop := ∀ w, w < m 6 → S.2.2.1 195 w = lN (c27 (wd w))
/-- the words are words: 1 to 8 letters, unlike -/
def okw (m : Nat → Nat) (wd : Nat → List Nat) : Prop := (∀ w, w < m 6 → 1 ≤ (wd w).length ∧ (wd w).length ≤ 8 ∧ ∀ x ∈ wd w, 1 ≤ x ∧ x ≤ 26)
def VI (S : rvS) (m : Nat → Nat) (wd : Nat → List Nat) : Prop := rv_B S ∧ CR S 67 m ∧ MRL S m ∧ okm m ∧ NC S 67 m wd ∧ NM S m wd ∧ okw m wd
/-- what a call may touch beside what it tells -/
def DV : List Nat := [67, 68, 69, 70, 71, 72, 73, 74, 75, 76, 77, 78, 83, 84, 85, 86] ++ [87, 88, 89, 90, 91, 92, 93, 94, 95, 96, 97, 98, 99, 100, 101, 102, 103, 104, 105, 106] ++ [108, 109, 110, 111003, 112, 113, 114, 116, 118004, 118006, 119, 120, 121] ++ [123, 124, 125, 126, 127, 128, 129, 130, 131, 132, 133, 134, 135, 136, 137, 138, 139, 140, 141, 142, 143, 144, 145, 146, 148] ++ [189000, 189022, 191, 192, 194, 199, 200, 202, 203, 204, 205, 206, 207, 209, 210, 212, 213, 216] ++ [189013, 189035, 189037, 189041, 189042, 189048, 189049, 189050, 189051, 189052, 189053]
def R42 (S S' : rvS) : Prop := ∀ k, 420 ≤ k → S'.2.1 191 k = S.2.1 191 k
theorem R42.tr {S S1 S2 : rvS} (h : R42 S S1) (h2 : R42 S1 S2) : R42 S S2 := fun k hk => (h2 k hk).trans (h k hk)
theorem R42.of {D : List Nat} {S S' : rvS} (f : rvf D S S') (h : D.elem 191 = false) : R42 S S' := fun k _ => f.row rfl h k
theorem rvf_of_fr {a : Nat} {S S' : rvS} (h : rv_fr [a] S S') (hr : rwb a = true) : rvf [a] S S' := ⟨h.1, rvr.rf h.2.1, fun b k hb => by
  have hn : b ∉ [a] := fun z => by
    have := List.mem_singleton.mp z
    subst this
    rw [lc_row hr] at hb
    exact hb z
  exact ⟨by rw [(h.2.2 b hn).1], by rw [(h.2.2 b hn).2]⟩⟩
section
variable {n : Nat} {S : rvS} {m : Nat → Nat}
theorem lay_ok (hn : 500 ≤ n) (hB : rv_B S) (hL : MRL S m) : ∃ S', fnX13_lay n S 189 = some S' ∧ rvf [189022, 191] S S' ∧ MR S' m ∧ R42 S S' ∧ ¬ S'.2.1 189 22 = 0 := by
  rw [fnX13_lay, ri_189 hB, Option.bind_some]
  by_cases c : S.2.1 189 22 = 0
  · have h1 : rv_B (rv_sI S 189 22 1) := hB
    obtain ⟨S', e, b, f, g1, g2⟩ := rv_plain (n := n) (a := 191) (m := 662) hn rfl rfl (by decide) (by decide) h1
    have f2 := rvf_of_fr f rfl
    refine ⟨S', ?_, ((rvf.sI S 189 22 1).mono rfl).tr (f2.mono rfl), fun k hk => ?_, fun k hk => ?_, ?_⟩
    · rw [if_pos c, rp_189 hB, Option.bind_some, rg_189_14 h1, Option.bind_some, e, Option.bind_some]
    · have := hL k hk
      rw [if_pos c] at this
      rw [g1 k hk, this]
    · rw [g2 k hk, rv_sI_a _ _ _ (by decide)]
    · rw [f2.at rfl, rv_sI_eq]; decide
  · refine ⟨S, if_neg c, rvf.rf _ _, fun k hk => ?_, fun _ _ => rfl, c⟩
    have := hL k hk
    rwa [if_neg c] at this
theorem MRL.of {S' : rvS} (h : MR S' m) (h2 : ¬ S'.2.1 189 22 = 0) : MRL S' m := fun k hk => by rw [if_neg h2]; exact h k hk
theorem MRL.f {D : List Nat} {S' : rvS} (h : MRL S m) (f : rvf D S S') (h1 : D.elem 191 = false) (h2 : D.elem 189022 = false) : MRL S' m := fun k hk => by
  rw [f.row rfl h1, f.at (a := 189) (k := 22) h2]
  exact h k hk
/-- thrown put to 0, then laid -/
theorem start_ok (hn : 500 ≤ n) (hB : rv_B S) (hL : MRL S m) : ∃ S', fnX13_lay n (rv_sI S 189 0 (nI 0)) 189 = some S' ∧ rv_B S' ∧ rvf [189000, 189022, 191] S S' ∧ MR S' m ∧ R42 S S' ∧ ¬ S'.2.1 189 22 = 0 := by
  have f0 := rvf.sI S 189 0 (nI 0)
  obtain ⟨S', e, f, h1, h2, h3⟩ := lay_ok hn (f0.B hB) (hL.f f0 rfl rfl)
  exact ⟨S', e, f.B (f0.B hB), (f0.mono rfl).tr (f.mono rfl), h1, (R42.of f0 rfl).tr h2, h3⟩
theorem CR.f {D : List Nat} {S' : rvS} {v : Nat} (h : CR S v m) (f : rvf D S S') (hv : vb v) (hd : [67, 68, 69, 70, 71, 73, 74, 75, 76, 77, 78, 84, 85, 86].all (fun a => !D.elem a) = true ∨ v ≠ 67) (hd1 : [87, 88, 89, 90, 91, 93, 94, 95, 96, 97, 98, 104, 105, 106].all (fun a => !D.elem a) = true ∨ v ≠ 87) (hd2 : [149, 150, 151, 152, 153, 155, 156, 157, 158, 159, 160, 166, 167, 168].all (fun a => !D.elem a) = true ∨ v ≠ 149) (hd3 : [169, 170, 171, 172, 173, 175, 176, 177, 178, 179, 180, 186, 187, 188].all (fun a => !D.elem a) = true ∨ v ≠ 169) : CR S' v m := by
  have key : ∀ i, i ∈ [0, 1, 2, 3, 4, 6, 7, 8, 9, 10, 11, 17, 18, 19] → ∀ k, S'.2.1 (v + i) k = S.2.1 (v + i) k := by
    have q : ∀ (L : List Nat) (u : Nat), (∀ i, i ∈ [0, 1, 2, 3, 4, 6, 7, 8, 9, 10, 11, 17, 18, 19] → u + i ∈ L ∧ rwb (u + i) = true) → (L.all (fun a => !D.elem a) = true) → ∀ i, i ∈ [0, 1, 2, 3, 4, 6, 7, 8, 9, 10, 11, 17, 18, 19] → ∀ k, S'.2.1 (u + i) k = S.2.1 (u + i) k := fun L u h1 h2 i hi k => by
      obtain ⟨h3, h4⟩ := h1 i hi
      have := List.all_eq_true.mp h2 _ h3
      exact f.row h4 (by simpa using this) k
    rcases hv with rfl | rfl | rfl | rfl
    · exact q _ _ (by decide) (hd.resolve_right (by decide))
    · exact q _ _ (by decide) (hd1.resolve_right (by decide))
    · exact q _ _ (by decide) (hd2.resolve_right (by decide))
    · exact q _ _ (by decide) (hd3.resolve_right (by decide))
  obtain ⟨⟨a1, a2, a3, a4, a5, a6, a7, a8⟩, ⟨b1, b2, b3, b4, b5⟩, c1, c2, c3, c4, c5, c6, c7⟩ := h
  have k0 := key 0 (by decide)
  have k1 := key 1 (by decide)
  have k2 : ∀ k, S'.2.1 (v + 1 + 1) k = S.2.1 (v + 1 + 1) k := key 2 (by decide)
  have k3 : ∀ k, S'.2.1 (v + 1 + 2) k = S.2.1 (v + 1 + 2) k := key 3 (by decide)
  have k4 : ∀ k, S'.2.1 (v + 1 + 3) k = S.2.1 (v + 1 + 3) k := key 4 (by decide)
  have k6 : ∀ k, S'.2.1 (v + 1 + 5) k = S.2.1 (v + 1 + 5) k := key 6 (by decide)
  have k7 : ∀ k, S'.2.1 (v + 1 + 6) k = S.2.1 (v + 1 + 6) k := key 7 (by decide)
  have k8 := key 8 (by decide)
  have k9 : ∀ k, S'.2.1 (v + 8 + 1) k = S.2.1 (v + 8 + 1) k := key 9 (by decide)
  have k10 : ∀ k, S'.2.1 (v + 8 + 2) k = S.2.1 (v + 8 + 2) k := key 10 (by decide)
  have k11 : ∀ k, S'.2.1 (v + 8 + 3) k = S.2.1 (v + 8 + 3) k := key 11 (by decide)
  have k17 := key 17 (by decide)
  have k18 := key 18 (by decide)
  have k19 := key 19 (by decide)
  rw [Nat.add_zero] at k0
  exact ⟨⟨(k1 _).trans a1, (k1 _).trans a2, (k1 _).trans a3, fun w h => (k2 w).trans (a4 w h), fun w h => (k3 w).trans (a5 w h), fun w h => (k4 w).trans (a6 w h), fun w h => (k6 w).trans (a7 w h), fun w h => (k7 w).trans (a8 w h)⟩, ⟨(k8 _).trans b1, (k8 _).trans b2, fun w h => (k9 w).trans (b3 w h), fun w h => (k10 w).trans (b4 w h), fun w h => (k11 w).trans (b5 w h)⟩, (k0 _).trans c1, (k0 _).trans c2, (k0 _).trans c3, (k0 _).trans c4, fun w h => (k17 w).trans (c5 w h), fun w h => (k18 w).trans (c6 w h), fun w h => (k19 w).trans (c7 w h)⟩
/-- a call that changed nothing of the valley -/
theorem VI.q {D : List Nat} {S' : rvS} {wd : Nat → List Nat} (h : VI S m wd) (f : rvf D S S') (hd : [67, 68, 69, 70, 71, 72, 73, 74, 75, 76, 77, 78, 84, 85, 86, 195].all (fun a => !D.elem a) = true) (hL : MRL S' m) : VI S' m wd := by
  obtain ⟨h1, h2, h3, h4, h5, h6, h7⟩ := h
  have g : ∀ a, a ∈ [67, 68, 69, 70, 71, 72, 73, 74, 75, 76, 77, 78, 84, 85, 86, 195] → D.elem a = false := fun a ha => by
    have := List.all_eq_true.mp hd a ha
    simpa using this
  refine ⟨f.B h1, h2.f f (Or.inl rfl) (Or.inl (List.all_eq_true.mpr fun a ha => ?_)) (Or.inr (by decide)) (Or.inr (by decide)) (Or.inr (by decide)), hL, h4, fun w hw => ?_, fun w hw => ?_, h7⟩
  · have e : a ∈ [67, 68, 69, 70, 71, 72, 73, 74, 75, 76, 77, 78, 84, 85, 86, 195] := by
      simp only [List.mem_cons, List.not_mem_nil, or_false] at ha ⊢
      omega
    rw [g a e]; rfl
  · rw [f.rowL (a := 67 + 5) rfl (g 72 (by decide))]; exact h5 w hw
  · rw [f.rowL (a := 195) rfl (g 195 (by decide))]; exact h6 w hw
/-- a number is one of the first N or none of them -/
theorem rng (x : Int32) {N : Nat} (hN : N < 2147483648) : (∃ a, a < N ∧ x = nI a) ∨ (x < nI 0 ∨ nI N ≤ x) := by
  by_cases h : x < 0
  · exact Or.inr (Or.inl h)
  · obtain ⟨a, ha, rfl⟩ := rv_nI_neg h
    by_cases h2 : a < N
    · exact Or.inl ⟨a, h2, rfl⟩
    · exact Or.inr (Or.inr ((nI_leI hN ha).mpr (by omega)))
theorem le_no {x y : Int32} (h : ¬ x < y) : y ≤ x := fa_of_nlt h
theorem rng_if {α : Type} {x N : Int32} {a b : α} (h : x < nI 0 ∨ N ≤ x) : (if x < nI 0 then a else if N ≤ x then a else b) = a := by
  by_cases c : x < nI 0
  · rw [if_pos c]
  · rw [if_neg c, if_pos (h.resolve_left c)]
/-! whether there is such a one: the class -/
theorem k_isWho (hB : rv_B S) (hR : CR S 67 m) (hk : okm m) {w : Nat} (hw : w < vW m) : fnX12_isWho n S 64 (nI w) = some (nI 1) := by
  have hv : vb 67 := Or.inl rfl
  have hVS := VS_of hB hv; have hFS := FS_of hB hv.f; have hPS := PS_of hB hv.p; obtain ⟨hF, hP, hD⟩ := hR; obtain ⟨hp, hc, hd⟩ := hk
  simp (disch := first | assumption | omega) only [fnX12_isWho, tk_gI, tk_gL, tk_gR, tk_pI, tk_pL, rv_aI, rv_aL, rv_aR, rv_uI, rv_uL, rv_uB, rv_uZ, pu_ckI, pu_ckL, pu_lnI, pu_lnL, tk_rI, tk_rL, Option.bind_some, Option.map_some, rv_lt, tk_ix, z0, z1, z2, z3, z4, z5, z6, z7, z8, z9, z10, z11, z12, z13, z15, z16, z17, z18, z20, z21, z23, z24, z25, z31, z32, z39, z40, z41, z46, z48, z50, z57, z59, z60, z61, z62, z63, z64, z97, z98, z99, z100, z101, z102, z103, z104, z105, z106, z107, z108, z109, z110, z111, z112, z113, z114, z115, z116, z117, z118, z119, z120, z121, z122, z128, z132, z200, z240, z255, z372, z390625, z400, z420, z421, z422, z662, z900, z940, z999, z1000, z1024, z2000, z5860, z10000, z12345, z15625, z266240, z1048575, z1064960, z1103515245, z_m1, rc_64 hB, rf_of hB (show (64, 1, 67) ∈ rv_rf0 by decide), hVS, hFS, k_has hFS hF hp hw, bo_1]
theorem k_isWho0 (hB : rv_B S) (hR : CR S 67 m) {x : Int32} (hx : x < nI 0 ∨ nI (vW m) ≤ x) : fnX12_isWho n S 64 x = some (nI 0) := by
  have hv : vb 67 := Or.inl rfl
  have hVS := VS_of hB hv
  have hFS := FS_of hB hv.f
  obtain ⟨hF, -, -⟩ := hR
  simp (disch := first | assumption | omega) only [fnX12_isWho, fnX1_has, tk_gI, tk_gL, tk_gR, tk_pI, tk_pL, rv_aI, rv_aL, rv_aR, rv_uI, rv_uL, rv_uB, rv_uZ, pu_ckI, pu_ckL, pu_lnI, pu_lnL, tk_rI, tk_rL, Option.bind_some, Option.map_some, rv_lt, tk_ix, z0, z1, z2, z3, z4, z5, z6, z7, z8, z9, z10, z11, z12, z13, z15, z16, z17, z18, z20, z21, z23, z24, z25, z31, z32, z39, z40, z41, z46, z48, z50, z57, z59, z60, z61, z62, z63, z64, z97, z98, z99, z100, z101, z102, z103, z104, z105, z106, z107, z108, z109, z110, z111, z112, z113, z114, z115, z116, z117, z118, z119, z120, z121, z122, z128, z132, z200, z240, z255, z372, z390625, z400, z420, z421, z422, z662, z900, z940, z999, z1000, z1024, z2000, z5860, z10000, z12345, z15625, z266240, z1048575, z1064960, z1103515245, z_m1, rc_64 hB, rf_of hB (show (64, 1, 67) ∈ rv_rf0 by decide), hVS, hFS, hF, rng_if hx, bo_0]
theorem k_isCoin (hB : rv_B S) (hR : CR S 67 m) (hk : okm m) {c : Nat} (hw : c < vC m) : fnX12_isCoin n S 64 (nI c) = some (nI 1) := by
  have hv : vb 67 := Or.inl rfl
  have hVS := VS_of hB hv; have hFS := FS_of hB hv.f; have hPS := PS_of hB hv.p; obtain ⟨hF, hP, hD⟩ := hR; obtain ⟨hp, hc, hd⟩ := hk
  have h1 := hc.1
  simp (disch := first | assumption | omega) only [fnX12_isCoin, tk_gI, tk_gL, tk_gR, tk_pI, tk_pL, rv_aI, rv_aL, rv_aR, rv_uI, rv_uL, rv_uB, rv_uZ, pu_ckI, pu_ckL, pu_lnI, pu_lnL, tk_rI, tk_rL, Option.bind_some, Option.map_some, rv_lt, tk_ix, z0, z1, z2, z3, z4, z5, z6, z7, z8, z9, z10, z11, z12, z13, z15, z16, z17, z18, z20, z21, z23, z24, z25, z31, z32, z39, z40, z41, z46, z48, z50, z57, z59, z60, z61, z62, z63, z64, z97, z98, z99, z100, z101, z102, z103, z104, z105, z106, z107, z108, z109, z110, z111, z112, z113, z114, z115, z116, z117, z118, z119, z120, z121, z122, z128, z132, z200, z240, z255, z372, z390625, z400, z420, z421, z422, z662, z900, z940, z999, z1000, z1024, z2000, z5860, z10000, z12345, z15625, z266240, z1048575, z1064960, z1103515245, z_m1, n_le, n_lt, n_eq, n_bit0, n_bit1, n_sbit0, n_shl, z_ltM, z_Mlt, z_leM, z_Mle, z_eqM, z_Meq, bI0, bI1, bI_01, bI_01t, bI_10, bI_10f, if_true, if_false, eq_self, reduceCtorEq, if_pos, if_neg, rc_64 hB, rf_of hB (show (64, 1, 67) ∈ rv_rf0 by decide), hVS, hPS, hP, Nat.not_lt_zero]
theorem k_isCoin0 (hB : rv_B S) (hR : CR S 67 m) {x : Int32} (hx : x < nI 0 ∨ nI (vC m) ≤ x) : fnX12_isCoin n S 64 x = some (nI 0) := by
  have hv : vb 67 := Or.inl rfl
  have hVS := VS_of hB hv
  have hPS := PS_of hB hv.p
  obtain ⟨-, hP, -⟩ := hR
  simp (disch := first | assumption | omega) only [fnX12_isCoin, tk_gI, tk_gL, tk_gR, tk_pI, tk_pL, rv_aI, rv_aL, rv_aR, rv_uI, rv_uL, rv_uB, rv_uZ, pu_ckI, pu_ckL, pu_lnI, pu_lnL, tk_rI, tk_rL, Option.bind_some, Option.map_some, rv_lt, tk_ix, z0, z1, z2, z3, z4, z5, z6, z7, z8, z9, z10, z11, z12, z13, z15, z16, z17, z18, z20, z21, z23, z24, z25, z31, z32, z39, z40, z41, z46, z48, z50, z57, z59, z60, z61, z62, z63, z64, z97, z98, z99, z100, z101, z102, z103, z104, z105, z106, z107, z108, z109, z110, z111, z112, z113, z114, z115, z116, z117, z118, z119, z120, z121, z122, z128, z132, z200, z240, z255, z372, z390625, z400, z420, z421, z422, z662, z900, z940, z999, z1000, z1024, z2000, z5860, z10000, z12345, z15625, z266240, z1048575, z1064960, z1103515245, z_m1, rc_64 hB, rf_of hB (show (64, 1, 67) ∈ rv_rf0 by decide), hVS, hPS, hP, rng_if hx]
theorem k_isDebt (hB : rv_B S) (hR : CR S 67 m) (hk : okm m) {k : Nat} (hw : k < vD m) : fnX12_isDebt n S 64 (nI k) = some (nI 1) := by
  have hv : vb 67 := Or.inl rfl
  have hVS := VS_of hB hv; have hFS := FS_of hB hv.f; have hPS := PS_of hB hv.p; obtain ⟨hF, hP, hD⟩ := hR; obtain ⟨hp, hc, hd⟩ := hk
  have h1 := hd.1
  simp (disch := first | assumption | omega) only [fnX12_isDebt, tk_gI, tk_gL, tk_gR, tk_pI, tk_pL, rv_aI, rv_aL, rv_aR, rv_uI, rv_uL, rv_uB, rv_uZ, pu_ckI, pu_ckL, pu_lnI, pu_lnL, tk_rI, tk_rL, Option.bind_some, Option.map_some, rv_lt, tk_ix, z0, z1, z2, z3, z4, z5, z6, z7, z8, z9, z10, z11, z12, z13, z15, z16, z17, z18, z20, z21, z23, z24, z25, z31, z32, z39, z40, z41, z46, z48, z50, z57, z59, z60, z61, z62, z63, z64, z97, z98, z99, z100, z101, z102, z103, z104, z105, z106, z107, z108, z109, z110, z111, z112, z113, z114, z115, z116, z117, z118, z119, z120, z121, z122, z128, z132, z200, z240, z255, z372, z390625, z400, z420, z421, z422, z662, z900, z940, z999, z1000, z1024, z2000, z5860, z10000, z12345, z15625, z266240, z1048575, z1064960, z1103515245, z_m1, n_le, n_lt, n_eq, n_bit0, n_bit1, n_sbit0, n_shl, z_ltM, z_Mlt, z_leM, z_Mle, z_eqM, z_Meq, bI0, bI1, bI_01, bI_01t, bI_10, bI_10f, if_true, if_false, eq_self, reduceCtorEq, if_pos, if_neg, rc_64 hB, rf_of hB (show (64, 1, 67) ∈ rv_rf0 by decide), hVS, hD, Nat.not_lt_zero]
theorem k_isDebt0 (hB : rv_B S) (hR : CR S 67 m) {x : Int32} (hx : x < nI 0 ∨ nI (vD m) ≤ x) : fnX12_isDebt n S 64 x = some (nI 0) := by
  have hv : vb 67 := Or.inl rfl
  have hVS := VS_of hB hv
  obtain ⟨-, -, hD⟩ := hR
  simp (disch := first | assumption | omega) only [fnX12_isDebt, tk_gI, tk_gL, tk_gR, tk_pI, tk_pL, rv_aI, rv_aL, rv_aR, rv_uI, rv_uL, rv_uB, rv_uZ, pu_ckI, pu_ckL, pu_lnI, pu_lnL, tk_rI, tk_rL, Option.bind_some, Option.map_some, rv_lt, tk_ix, z0, z1, z2, z3, z4, z5, z6, z7, z8, z9, z10, z11, z12, z13, z15, z16, z17, z18, z20, z21, z23, z24, z25, z31, z32, z39, z40, z41, z46, z48, z50, z57, z59, z60, z61, z62, z63, z64, z97, z98, z99, z100, z101, z102, z103, z104, z105, z106, z107, z108, z109, z110, z111, z112, z113, z114, z115, z116, z117, z118, z119, z120, z121, z122, z128, z132, z200, z240, z255, z372, z390625, z400, z420, z421, z422, z662, z900, z940, z999, z1000, z1024, z2000, z5860, z10000, z12345, z15625, z266240, z1048575, z1064960, z1103515245, z_m1, rc_64 hB, rf_of hB (show (64, 1, 67) ∈ rv_rf0 by decide), hVS, hD, rng_if hx]
theorem k_isV0 {x : Int32} (hx : x < nI 0 ∨ nI 4 ≤ x) : fnX1_isVillage n S x = some (nI 0) := by
  simp (disch := first | assumption | omega) only [fnX1_isVillage, z0, z1, z2, z3, z4, z5, z6, z7, z8, z9, z10, z11, z12, z13, z15, z16, z17, z18, z20, z21, z23, z24, z25, z31, z32, z39, z40, z41, z46, z48, z50, z57, z59, z60, z61, z62, z63, z64, z97, z98, z99, z100, z101, z102, z103, z104, z105, z106, z107, z108, z109, z110, z111, z112, z113, z114, z115, z116, z117, z118, z119, z120, z121, z122, z128, z132, z200, z240, z255, z372, z390625, z400, z420, z421, z422, z662, z900, z940, z999, z1000, z1024, z2000, z5860, z10000, z12345, z15625, z266240, z1048575, z1064960, z1103515245, z_m1]
  exact rng_if hx
/-! the reference -/
theorem m_isWho (hB : rv_B S) (hM : MR S m) (hp : okp m) {w : Nat} (hw : w < vW m) : fnX13_isWho n S 189 (nI w) = some (nI 1) := by
  have h1 := hp.1
  simp (disch := first | assumption | omega) only [fnX13_isWho, tk_gI, tk_gL, tk_gR, tk_pI, tk_pL, rv_aI, rv_aL, rv_aR, rv_uI, rv_uL, rv_uB, rv_uZ, pu_ckI, pu_ckL, pu_lnI, pu_lnL, tk_rI, tk_rL, Option.bind_some, Option.map_some, rv_lt, tk_ix, z0, z1, z2, z3, z4, z5, z6, z7, z8, z9, z10, z11, z12, z13, z15, z16, z17, z18, z20, z21, z23, z24, z25, z31, z32, z39, z40, z41, z46, z48, z50, z57, z59, z60, z61, z62, z63, z64, z97, z98, z99, z100, z101, z102, z103, z104, z105, z106, z107, z108, z109, z110, z111, z112, z113, z114, z115, z116, z117, z118, z119, z120, z121, z122, z128, z132, z200, z240, z255, z372, z390625, z400, z420, z421, z422, z662, z900, z940, z999, z1000, z1024, z2000, z5860, z10000, z12345, z15625, z266240, z1048575, z1064960, z1103515245, z_m1, n_le, n_lt, n_eq, n_bit0, n_bit1, n_sbit0, n_shl, z_ltM, z_Mlt, z_leM, z_Mle, z_eqM, z_Meq, bI0, bI1, bI_01, bI_01t, bI_10, bI_10f, if_true, if_false, eq_self, reduceCtorEq, if_pos, if_neg, rc_189 hB, m_whos hB hM, Nat.not_lt_zero]
theorem m_isWho0 (hB : rv_B S) (hM : MR S m) {x : Int32} (hx : x < nI 0 ∨ nI (vW m) ≤ x) : fnX13_isWho n S 189 x = some (nI 0) := by
  simp (disch := first | assumption | omega) only [fnX13_isWho, tk_gI, tk_gL, tk_gR, tk_pI, tk_pL, rv_aI, rv_aL, rv_aR, rv_uI, rv_uL, rv_uB, rv_uZ, pu_ckI, pu_ckL, pu_lnI, pu_lnL, tk_rI, tk_rL, Option.bind_some, Option.map_some, rv_lt, tk_ix, z0, z1, z2, z3, z4, z5, z6, z7, z8, z9, z10, z11, z12, z13, z15, z16, z17, z18, z20, z21, z23, z24, z25, z31, z32, z39, z40, z41, z46, z48, z50, z57, z59, z60, z61, z62, z63, z64, z97, z98, z99, z100, z101, z102, z103, z104, z105, z106, z107, z108, z109, z110, z111, z112, z113, z114, z115, z116, z117, z118, z119, z120, z121, z122, z128, z132, z200, z240, z255, z372, z390625, z400, z420, z421, z422, z662, z900, z940, z999, z1000, z1024, z2000, z5860, z10000, z12345, z15625, z266240, z1048575, z1064960, z1103515245, z_m1, rc_189 hB, m_whos hB hM, rng_if hx]
theorem m_isCoin (hB : rv_B S) (hM : MR S m) (hc : okc m) {c : Nat} (hw : c < vC m) : fnX13_isCoin n S 189 (nI c) = some (nI 1) := by
  have h1 := hc.1
  simp (disch := first | assumption | omega) only [fnX13_isCoin, tk_gI, tk_gL, tk_gR, tk_pI, tk_pL, rv_aI, rv_aL, rv_aR, rv_uI, rv_uL, rv_uB, rv_uZ, pu_ckI, pu_ckL, pu_lnI, pu_lnL, tk_rI, tk_rL, Option.bind_some, Option.map_some, rv_lt, tk_ix, z0, z1, z2, z3, z4, z5, z6, z7, z8, z9, z10, z11, z12, z13, z15, z16, z17, z18, z20, z21, z23, z24, z25, z31, z32, z39, z40, z41, z46, z48, z50, z57, z59, z60, z61, z62, z63, z64, z97, z98, z99, z100, z101, z102, z103, z104, z105, z106, z107, z108, z109, z110, z111, z112, z113, z114, z115, z116, z117, z118, z119, z120, z121, z122, z128, z132, z200, z240, z255, z372, z390625, z400, z420, z421, z422, z662, z900, z940, z999, z1000, z1024, z2000, z5860, z10000, z12345, z15625, z266240, z1048575, z1064960, z1103515245, z_m1, n_le, n_lt, n_eq, n_bit0, n_bit1, n_sbit0, n_shl, z_ltM, z_Mlt, z_leM, z_Mle, z_eqM, z_Meq, bI0, bI1, bI_01, bI_01t, bI_10, bI_10f, if_true, if_false, eq_self, reduceCtorEq, if_pos, if_neg, rc_189 hB, m_coins hB hM, Nat.not_lt_zero]
theorem m_isCoin0 (hB : rv_B S) (hM : MR S m) {x : Int32} (hx : x < nI 0 ∨ nI (vC m) ≤ x) : fnX13_isCoin n S 189 x = some (nI 0) := by
  simp (disch := first | assumption | omega) only [fnX13_isCoin, tk_gI, tk_gL, tk_gR, tk_pI, tk_pL, rv_aI, rv_aL, rv_aR, rv_uI, rv_uL, rv_uB, rv_uZ, pu_ckI, pu_ckL, pu_lnI, pu_lnL, tk_rI, tk_rL, Option.bind_some, Option.map_some, rv_lt, tk_ix, z0, z1, z2, z3, z4, z5, z6, z7, z8, z9, z10, z11, z12, z13, z15, z16, z17, z18, z20, z21, z23, z24, z25, z31, z32, z39, z40, z41, z46, z48, z50, z57, z59, z60, z61, z62, z63, z64, z97, z98, z99, z100, z101, z102, z103, z104, z105, z106, z107, z108, z109, z110, z111, z112, z113, z114, z115, z116, z117, z118, z119, z120, z121, z122, z128, z132, z200, z240, z255, z372, z390625, z400, z420, z421, z422, z662, z900, z940, z999, z1000, z1024, z2000, z5860, z10000, z12345, z15625, z266240, z1048575, z1064960, z1103515245, z_m1, rc_189 hB, m_coins hB hM, rng_if hx]
theorem m_isDebt (hB : rv_B S) (hM : MR S m) (hd : okd m) {k : Nat} (hw : k < vD m) : fnX13_isDebt n S 189 (nI k) = some (nI 1) := by
  have h1 := hd.1
  have : S.2.1 191 2 = nI (vD m) := hM 2 (by decide)
  simp (disch := first | assumption | omega) only [fnX13_isDebt, tk_gI, tk_gL, tk_gR, tk_pI, tk_pL, rv_aI, rv_aL, rv_aR, rv_uI, rv_uL, rv_uB, rv_uZ, pu_ckI, pu_ckL, pu_lnI, pu_lnL, tk_rI, tk_rL, Option.bind_some, Option.map_some, rv_lt, tk_ix, z0, z1, z2, z3, z4, z5, z6, z7, z8, z9, z10, z11, z12, z13, z15, z16, z17, z18, z20, z21, z23, z24, z25, z31, z32, z39, z40, z41, z46, z48, z50, z57, z59, z60, z61, z62, z63, z64, z97, z98, z99, z100, z101, z102, z103, z104, z105, z106, z107, z108, z109, z110, z111, z112, z113, z114, z115, z116, z117, z118, z119, z120, z121, z122, z128, z132, z200, z240, z255, z372, z390625, z400, z420, z421, z422, z662, z900, z940, z999, z1000, z1024, z2000, z5860, z10000, z12345, z15625, z266240, z1048575, z1064960, z1103515245, z_m1, n_le, n_lt, n_eq, n_bit0, n_bit1, n_sbit0, n_shl, z_ltM, z_Mlt, z_leM, z_Mle, z_eqM, z_Meq, bI0, bI1, bI_01, bI_01t, bI_10, bI_10f, if_true, if_false, eq_self, reduceCtorEq, if_pos, if_neg, rc_189 hB, rf_of hB (show (189, 14, 191) ∈ rv_rf0 by decide), rn_191 hB, this, Nat.not_lt_zero]
theorem m_isDebt0 (hB : rv_B S) (hM : MR S m) {x : Int32} (hx : x < nI 0 ∨ nI (vD m) ≤ x) : fnX13_isDebt n S 189 x = some (nI 0) := by
  have : S.2.1 191 2 = nI (vD m) := hM 2 (by decide)
  simp (disch := first | assumption | omega) only [fnX13_isDebt, tk_gI, tk_gL, tk_gR, tk_pI, tk_pL, rv_aI, rv_aL, rv_aR, rv_uI, rv_uL, rv_uB, rv_uZ, pu_ckI, pu_ckL, pu_lnI, pu_lnL, tk_rI, tk_rL, Option.bind_some, Option.map_some, rv_lt, tk_ix, z0, z1, z2, z3, z4, z5, z6, z7, z8, z9, z10, z11, z12, z13, z15, z16, z17, z18, z20, z21, z23, z24, z25, z31, z32, z39, z40, z41, z46, z48, z50, z57, z59, z60, z61, z62, z63, z64, z97, z98, z99, z100, z101, z102, z103, z104, z105, z106, z107, z108, z109, z110, z111, z112, z113, z114, z115, z116, z117, z118, z119, z120, z121, z122, z128, z132, z200, z240, z255, z372, z390625, z400, z420, z421, z422, z662, z900, z940, z999, z1000, z1024, z2000, z5860, z10000, z12345, z15625, z266240, z1048575, z1064960, z1103515245, z_m1, rc_189 hB, rf_of hB (show (189, 14, 191) ∈ rv_rf0 by decide), rn_191 hB, this, rng_if hx]
theorem m_isV {a : Nat} (ha : a < 4) : fnX13_isVillage n S (nI a) = some (nI 1) := by
  simp (disch := first | assumption | omega) only [fnX13_isVillage, fnX13_isIn, tk_gI, tk_gL, tk_gR, tk_pI, tk_pL, rv_aI, rv_aL, rv_aR, rv_uI, rv_uL, rv_uB, rv_uZ, pu_ckI, pu_ckL, pu_lnI, pu_lnL, tk_rI, tk_rL, Option.bind_some, Option.map_some, rv_lt, tk_ix, z0, z1, z2, z3, z4, z5, z6, z7, z8, z9, z10, z11, z12, z13, z15, z16, z17, z18, z20, z21, z23, z24, z25, z31, z32, z39, z40, z41, z46, z48, z50, z57, z59, z60, z61, z62, z63, z64, z97, z98, z99, z100, z101, z102, z103, z104, z105, z106, z107, z108, z109, z110, z111, z112, z113, z114, z115, z116, z117, z118, z119, z120, z121, z122, z128, z132, z200, z240, z255, z372, z390625, z400, z420, z421, z422, z662, z900, z940, z999, z1000, z1024, z2000, z5860, z10000, z12345, z15625, z266240, z1048575, z1064960, z1103515245, z_m1, n_le, n_lt, n_eq, n_bit0, n_bit1, n_sbit0, n_shl, z_ltM, z_Mlt, z_leM, z_Mle, z_eqM, z_Meq, bI0, bI1, bI_01, bI_01t, bI_10, bI_10f, if_true, if_false, eq_self, reduceCtorEq, if_pos, if_neg, Nat.not_lt_zero, bo_1]
theorem m_isV0 {x : Int32} (hx : x < nI 0 ∨ nI 4 ≤ x) : fnX13_isVillage n S x = some (nI 0) := by
  simp (disch := first | assumption | omega) only [fnX13_isVillage, fnX13_isIn, tk_gI, tk_gL, tk_gR, tk_pI, tk_pL, rv_aI, rv_aL, rv_aR, rv_uI, rv_uL, rv_uB, rv_uZ, pu_ckI, pu_ckL, pu_lnI, pu_lnL, tk_rI, tk_rL, Option.bind_some, Option.map_some, rv_lt, tk_ix, z0, z1, z2, z3, z4, z5, z6, z7, z8, z9, z10, z11, z12, z13, z15, z16, z17, z18, z20, z21, z23, z24, z25, z31, z32, z39, z40, z41, z46, z48, z50, z57, z59, z60, z61, z62, z63, z64, z97, z98, z99, z100, z101, z102, z103, z104, z105, z106, z107, z108, z109, z110, z111, z112, z113, z114, z115, z116, z117, z118, z119, z120, z121, z122, z128, z132, z200, z240, z255, z372, z390625, z400, z420, z421, z422, z662, z900, z940, z999, z1000, z1024, z2000, z5860, z10000, z12345, z15625, z266240, z1048575, z1064960, z1103515245, z_m1]
  by_cases c : x < nI 0
  · rw [if_pos c]; rfl
  · have h : nI 3 < x := fa_trans (nI_lt (by decide) (by decide)) (hx.resolve_left c)
    rw [if_neg c, if_pos h]; rfl
end
