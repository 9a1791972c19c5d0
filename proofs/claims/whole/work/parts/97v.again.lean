/-! AGAIN: what must be so that a state comes again (pure); the class's look at it -/
section
variable {n : Nat} {S : rvS} {m : Nat → Nat} {s0 : St} {wd : Nat → List Nat}
def chL (m : Nat → Nat) : Nat → List Nat → Bool
  | _, [] => true
  | B, x :: t => !B.testBit x && chL m (B ||| hs m x) t
def CH (m : Nat → Nat) (o : Nat) (l : List Nat) : Bool := decide (vN m ≤ l.length) && (decide (fg m o l = 0) && chL m (bs (fun w => decide (0 < de m w)) (vW m) ||| hs m o) l)
theorem Rch_tr {a : Nat} (h : Rch m s0 a s0) : ∀ b s, Rch m s0 b s → Rch m s0 (a + b) s := by
  intro b
  induction b with
  | zero =>
    intro s hs
    have hs : s = s0 := hs
    rw [hs]; exact h
  | succ b ih =>
    rintro s ⟨s', w, h1, h2⟩
    exact ⟨s', w, ih s' h1, h2⟩
theorem sh_sym (hp : okp m) {a b : Nat} (ha : a < vW m) (hb : b < vW m) (h : sh m a b = false) : sh m b a = false := by
  cases e : sh m b a
  · rfl
  · rw [sh_lst hp hb ha] at e
    have := (sh_lst hp ha hb).mpr e.symm
    rw [h] at this
    exact absurd this (by decide)
theorem sh_ne {a b : Nat} (h : sh m a b = false) : a ≠ b := fun e => by
  unfold sh at h
  rw [e, decide_eq_true rfl, Bool.true_or] at h
  exact absurd h (by decide)
theorem GK_sh {H : List Nat} {x : Nat} (h : GK m H x) {b z : Nat} (hb : b ≤ vN m) (e : H[b]? = some z) : sh m x z = false := h.2.1 b z hb e
/-- what stands on a round fulfils it -/
theorem CH_round (hk : okm m) (hs0 : okS m s0) (hl : s0.2.length ≤ vN m) {K : Nat} (hr : Rch m s0 (K + 1) s0) : CH m s0.1 s0.2 = true := by
  obtain ⟨hp, hc, hd⟩ := id hk
  have hN := hc.2.1
  have r2 := Rch_tr hr _ _ hr
  have r4 := Rch_tr r2 _ _ r2
  obtain ⟨H, v1, v2, v3⟩ := R_VH hl _ _ r4
  match H, v1, v2, v3 with
  | w0 :: w1 :: w2 :: w3 :: w4 :: t, v1, v2, v3 =>
    obtain ⟨u1, a0, g0⟩ := v1
    obtain ⟨u2, a1, g1⟩ := u1
    obtain ⟨u3, a2, g2⟩ := u2
    obtain ⟨u4, a3, g3⟩ := u3
    have eo : w0 = s0.1 := congrArg Prod.fst v3
    have el : (w1 :: w2 :: w3 :: w4 :: (t ++ s0.2)).take (vN m) = s0.2 := congrArg Prod.snd v3
    have d1 := g1.1
    have d2 := g2.1
    have d3 := g3.1
    have n0 : nr m (at_ m w0) (at_ m w1) = true := by
      obtain ⟨y, e, hy⟩ := g0.2.2
      rw [← Option.some.inj e] at hy; exact hy
    have n1 : nr m (at_ m w1) (at_ m w2) = true := by
      obtain ⟨y, e, hy⟩ := g1.2.2
      rw [← Option.some.inj e] at hy; exact hy
    have n2 : nr m (at_ m w2) (at_ m w3) = true := by
      obtain ⟨y, e, hy⟩ := g2.2.2
      rw [← Option.some.inj e] at hy; exact hy
    have s01 : sh m w0 w1 = false := GK_sh g0 (b := 0) (Nat.zero_le _) rfl
    have s02 : 1 ≤ vN m → sh m w0 w2 = false := fun h => GK_sh g0 (b := 1) h rfl
    have s03 : 2 ≤ vN m → sh m w0 w3 = false := fun h => GK_sh g0 (b := 2) h rfl
    have s12 : sh m w1 w2 = false := GK_sh g1 (b := 0) (Nat.zero_le _) rfl
    have s13 : 1 ≤ vN m → sh m w1 w3 = false := fun h => GK_sh g1 (b := 1) h rfl
    have s23 : sh m w2 w3 = false := GK_sh g2 (b := 0) (Nat.zero_le _) rfl
    have B : ∀ {a b : Nat}, a < vW m → b < vW m → sh m a b = false → (hs m a).testBit b = false := fun ha hb h => by rw [hs_sh hp ha hb]; exact sh_sym hp ha hb h
    have D : ∀ {x : Nat}, x < vW m → ¬ 0 < de m x → (bs (fun w => decide (0 < de m w)) (vW m)).testBit x = false := fun hx h => by rw [bs_bit, decide_eq_true hx, Bool.true_and, decide_eq_false h]
    have c : ∀ {a b : Nat}, sh m a b = false → (b == a) = false ∧ (a == b) = false := fun h => ⟨by rw [beq_eq_false_iff_ne]; exact (sh_ne h).symm, by rw [beq_eq_false_iff_ne]; exact sh_ne h⟩
    rw [← eo, ← el]
    have : vN m = 0 ∨ vN m = 1 ∨ vN m = 2 ∨ vN m = 3 := by omega
    rcases this with e | e | e | e
    · rw [e, List.take_zero, CH, e]
      rfl
    · have t1 : (w1 :: w2 :: w3 :: w4 :: (t ++ s0.2)).take 1 = [w1] := rfl
      rw [e, t1, CH, e]
      simp [fg, b3, dupL, brk, n0, (c s01).1, (c s01).2, chL, D a1 d1, B a0 a1 s01, Ne.symm (sh_ne s01), sh_ne s01]
    · have t1 : (w1 :: w2 :: w3 :: w4 :: (t ++ s0.2)).take 2 = [w1, w2] := rfl
      have s02 := s02 (by omega)
      rw [e, t1, CH, e]
      simp [fg, b3, dupL, brk, n0, n1, chL, D a1 d1, D a2 d2, B a0 a1 s01, B a0 a2 s02, B a1 a2 s12, Ne.symm (sh_ne s01), sh_ne s01, Ne.symm (sh_ne s02), sh_ne s02, Ne.symm (sh_ne s12), sh_ne s12]
    · have t1 : (w1 :: w2 :: w3 :: w4 :: (t ++ s0.2)).take 3 = [w1, w2, w3] := rfl
      have s02 := s02 (by omega)
      have s03 := s03 (by omega)
      have s13 := s13 (by omega)
      rw [e, t1, CH, e]
      simp [fg, b3, dupL, brk, n0, n1, n2, chL, D a1 d1, D a2 d2, D a3 d3, B a0 a1 s01, B a0 a2 s02, B a0 a3 s03, B a1 a2 s12, B a1 a3 s13, B a2 a3 s23, Ne.symm (sh_ne s01), sh_ne s01, Ne.symm (sh_ne s02), sh_ne s02, Ne.symm (sh_ne s12), sh_ne s12, Ne.symm (sh_ne s03), sh_ne s03, Ne.symm (sh_ne s13), sh_ne s13, Ne.symm (sh_ne s23), sh_ne s23]
  | [_, _, _, _], _, v2, _ => simp at v2; omega
  | [_, _, _], _, v2, _ => simp at v2; omega
  | [_, _], _, v2, _ => simp at v2; omega
  | [_], _, v2, _ => simp at v2
  | [], _, v2, _ => simp at v2
theorem k_canHaveCome (hn : 50 ≤ n) (hB : rv_B S) (hR : CR S 67 m) (hk : okm m) {c : Nat} (hc : c < vC m) : fnX2_canHaveCome n S 67 (nI c) = some (bI (CH m (ow m c) (rl m c))) := by
  have hv : vb 67 := Or.inl rfl
  have hVS := VS_of hB hv
  have hFS := FS_of hB hv.f
  have hPS := PS_of hB hv.p
  obtain ⟨hF, hP, hD⟩ := id hR
  obtain ⟨hp, hcc, hd⟩ := id hk
  have h24 := hp.1
  have h40 := hcc.1
  have hN := hcc.2.1
  obtain ⟨-, -, ho, -, -⟩ := hcc.2.2 c hc
  have hl := hcc.l hc
  obtain ⟨l, el⟩ : ∃ l, l = rl m c := ⟨_, rfl⟩
  have kn := k_names (n := n) (by omega) hPS hP hp hcc hc
  have kf := k_forgery (n := n) (by omega) hB hv hR hk hc
  have na : ∀ i, i < 3 → _ := fun i hi => k_nameAt (n := n) hPS hP hp hcc hc (i := i) hi
  rw [← el] at kn kf na hl
  have l3 := hl.1
  have ln : l.length ≤ vN m := by
    rw [el, rl_len (by have := (hcc.2.2 c hc).2.2.2.1; omega)]
    exact (hcc.2.2 c hc).2.2.2.1
  have fgl : fg m (ow m c) l < 8 := by
    unfold fg b3
    split <;> split <;> split <;> omega
  have hh0 := k_houseOf (n := n) hFS hF hp ho
  have p1 : S.2.1 (67 + 8) 1 = nI (vN m) := hP.2.1
  have l24 : ∀ {x : Nat}, x < vW m → hs m x < 2 ^ 24 := fun hx => hs_lt hp hx
  have key : ∀ (t : List Nat) (i B q : Nat), (∀ j, l[i + j]? = t[j]?) → B < 2 ^ 24 → t.length < q → i + t.length = vN m → cX2_canHaveCome_52 n S q 67 (nI c) (67 + 8) (nI B) (nI i) = some (bI (chL m B t)) := by
    intro t
    induction t with
    | nil =>
      intro i B q _ _ hq hi
      obtain ⟨q, rfl⟩ : ∃ q', q = q' + 1 := ⟨q - 1, by omega⟩
      have hi : i = vN m := hi
      rw [cX2_canHaveCome_52]
      repeat (first | (conv => (lhs; arg 1; simp (disch := first | assumption | omega) only [tk_gI, tk_gL, tk_gR, tk_pI, tk_pL, rv_aI, rv_aL, rv_aR, rv_uI, rv_uL, rv_uB, rv_uZ, pu_ckI, pu_ckL, pu_lnI, pu_lnL, tk_rI, tk_rL, Option.bind_some, Option.map_some, rv_lt, tk_ix, hPS, p1])); first | rw [Option.bind_some] | rw [bp_s] | rw [if_true] | rw [if_false] | rw [rv_lt_eq] | rw [if_pos (by omega)] | rw [if_neg (by omega)])
      rw [if_pos (by rw [hi, n_le (by omega) (by omega)]; omega)]
      rfl
    | cons x t ih =>
      intro i B q ht hB' hq hi
      obtain ⟨q, rfl⟩ : ∃ q', q = q' + 1 := ⟨q - 1, by omega⟩
      have hi : i + (t.length + 1) = vN m := hi
      have e0 : l[i]? = some x := ht 0
      have hx : x < vW m := hl.2 x (List.mem_of_getElem? e0)
      have nx' : nmI l i = nI x := by rw [nmI, e0]
      have na' := na i (by omega)
      rw [nx'] at na'
      have bt := z_bit0 (x := B) (j := x) (Nat.lt_trans hB' (by decide)) (by omega)
      have hh := k_houseOf (n := n) hFS hF hp hx
      have ni : ¬ nI (vN m) ≤ nI i := by rw [n_le (by omega) (by omega)]; omega
      rw [cX2_canHaveCome_52]
      repeat (first | (conv => (lhs; arg 1; simp (disch := first | assumption | omega) only [tk_gI, tk_gL, tk_gR, tk_pI, tk_pL, rv_aI, rv_aL, rv_aR, rv_uI, rv_uL, rv_uB, rv_uZ, pu_ckI, pu_ckL, pu_lnI, pu_lnL, tk_rI, tk_rL, Option.bind_some, Option.map_some, rv_lt, tk_ix, hPS, p1])); first | rw [Option.bind_some] | rw [bp_s] | rw [if_true] | rw [if_false] | rw [rv_lt_eq] | rw [if_pos (by omega)] | rw [if_neg (by omega)])
      repeat (first | (conv => (lhs; arg 1; simp (disch := first | assumption | omega) only [tk_gI, tk_gL, tk_gR, tk_pI, tk_pL, rv_aI, rv_aL, rv_aR, rv_uI, rv_uL, rv_uB, rv_uZ, pu_ckI, pu_ckL, pu_lnI, pu_lnL, tk_rI, tk_rL, Option.bind_some, Option.map_some, rv_lt, tk_ix, hPS, na'])); first | rw [Option.bind_some] | rw [bp_s] | rw [if_true] | rw [if_false] | rw [rv_lt_eq] | rw [if_pos (by omega)] | rw [if_neg (by omega)])
      cases hb : B.testBit x
      · rw [if_pos (bt.mpr hb)]
        repeat (first | (conv => (lhs; arg 1; simp (disch := first | assumption | omega) only [tk_gI, tk_gL, tk_gR, tk_pI, tk_pL, rv_aI, rv_aL, rv_aR, rv_uI, rv_uL, rv_uB, rv_uZ, pu_ckI, pu_ckL, pu_lnI, pu_lnL, tk_rI, tk_rL, Option.bind_some, Option.map_some, rv_lt, tk_ix, hVS, hFS, hh])); first | rw [Option.bind_some] | rw [bp_s] | rw [if_true] | rw [if_false] | rw [rv_lt_eq] | rw [if_pos (by omega)] | rw [if_neg (by omega)])
        rw [fa_or, z1, nI_add, ih (i + 1) (B ||| hs m x) q (fun j => by
          have := ht (j + 1)
          rw [show i + (j + 1) = i + 1 + j by omega] at this
          exact this) (Nat.or_lt_two_pow hB' (l24 hx)) (by have : t.length + 1 < q + 1 := hq; omega) (by omega), chL, hb]
        rfl
      · rw [if_neg (by rw [bt, hb]; decide), chL, hb]
        rfl
  have ow' : S.2.1 (67 + 8 + 2) c = nI (ow m c) := hP.2.2.2.1 c hc
  rw [← el]
  rw [fnX2_canHaveCome]
  repeat (first | (conv => (lhs; arg 1; simp (disch := first | assumption | omega) only [tk_gI, tk_gL, tk_gR, tk_pI, tk_pL, rv_aI, rv_aL, rv_aR, rv_uI, rv_uL, rv_uB, rv_uZ, pu_ckI, pu_ckL, pu_lnI, pu_lnL, tk_rI, tk_rL, Option.bind_some, Option.map_some, rv_lt, tk_ix, hVS, hPS, kn, p1])); first | rw [Option.bind_some] | rw [bp_s] | rw [if_true] | rw [if_false] | rw [rv_lt_eq] | rw [if_pos (by omega)] | rw [if_neg (by omega)])
  by_cases c1 : l.length < vN m
  · rw [if_pos (by rw [n_lt (by omega) (by omega)]; exact c1), CH, decide_eq_false (by omega)]
    rfl
  · rw [if_neg (by rw [n_lt (by omega) (by omega)]; exact c1), CH, decide_eq_true (by omega)]
    repeat (first | (conv => (lhs; arg 1; simp (disch := first | assumption | omega) only [tk_gI, tk_gL, tk_gR, tk_pI, tk_pL, rv_aI, rv_aL, rv_aR, rv_uI, rv_uL, rv_uB, rv_uZ, pu_ckI, pu_ckL, pu_lnI, pu_lnL, tk_rI, tk_rL, Option.bind_some, Option.map_some, rv_lt, tk_ix, hVS, kf])); first | rw [Option.bind_some] | rw [bp_s] | rw [if_true] | rw [if_false] | rw [rv_lt_eq] | rw [if_pos (by omega)] | rw [if_neg (by omega)])
    by_cases c2 : fg m (ow m c) l = 0
    · rw [c2, if_pos (by rfl), decide_eq_true rfl, Bool.true_and, Bool.true_and]
      repeat (first | (conv => (lhs; arg 1; simp (disch := first | assumption | omega) only [tk_gI, tk_gL, tk_gR, tk_pI, tk_pL, rv_aI, rv_aL, rv_aR, rv_uI, rv_uL, rv_uB, rv_uZ, pu_ckI, pu_ckL, pu_lnI, pu_lnL, tk_rI, tk_rL, Option.bind_some, Option.map_some, rv_lt, tk_ix, hVS, hFS, hF.2.1, hPS, ow', hh0])); first | rw [Option.bind_some] | rw [bp_s] | rw [if_true] | rw [if_false] | rw [rv_lt_eq] | rw [if_pos (by omega)] | rw [if_neg (by omega)])
      rw [fa_or, z0]
      exact key l 0 _ n (fun j => by rw [Nat.zero_add]) (Nat.or_lt_two_pow (Nat.lt_of_lt_of_le (bs_lt _ _) (Nat.pow_le_pow_right (by decide) h24)) (l24 ho)) (by omega) (by omega)
    · rw [if_neg (by rw [z0, n_eq (by omega) (by decide)]; exact c2), decide_eq_false c2]
      rfl
end
