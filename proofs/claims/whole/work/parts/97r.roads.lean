/-! THE SEARCH: roads that lead, and the dead -/
section
variable {n : Nat} {S : rvS} {m : Nat → Nat} {s0 : St} {f : Nat}
def rst (F v r : Nat) : Nat := if F.testBit v = true then F ||| r else F
def rrd (r0 r1 r2 r3 F : Nat) : Nat := rst (rst (rst (rst F 0 r0) 1 r1) 2 r2) 3 r3
def rl3 (r0 r1 r2 r3 a : Nat) : Nat := rrd r0 r1 r2 r3 (rrd r0 r1 r2 r3 (rrd r0 r1 r2 r3 (2 ^ a)))
def rlc (r0 r1 r2 r3 F a : Nat) : Bool := F.testBit a && decide (F < 16) && (!F.testBit 0 || decide (F ||| r0 = F)) && (!F.testBit 1 || decide (F ||| r1 = F)) && (!F.testBit 2 || decide (F ||| r2 = F)) && (!F.testBit 3 || decide (F ||| r3 = F))
def rlA (r0 r1 r2 r3 : Nat) : Bool := (!r3.testBit 3) || (List.range 4).all fun a => rlc r0 r1 r2 r3 (rl3 r0 r1 r2 r3 a) a
def rlB (r0 r1 r2 : Nat) : Bool := (!r2.testBit 2) || (List.range 16).all fun r3 => rlA r0 r1 r2 r3
def rlC (r0 r1 : Nat) : Bool := (!r1.testBit 1) || (List.range 16).all fun r2 => rlB r0 r1 r2
def rlD (r0 : Nat) : Bool := (!r0.testBit 0) || (List.range 16).all fun r1 => rlC r0 r1
theorem rl_dec : ((List.range 16).all fun r0 => rlD r0) = true := by decide +kernel
theorem rl_step {p : Nat → Bool} {b : Bool} {k x : Nat} (h : ((!b) || (List.range k).all p) = true) (hb : b = true) (hx : x < k) : p x = true := by
  rw [hb, Bool.not_true, Bool.false_or] at h
  exact List.all_eq_true.mp h x (List.mem_range.mpr hx)
theorem rl_all (r0 : Nat) (h0 : r0 < 16) (b0 : r0.testBit 0 = true) (r1 : Nat) (h1 : r1 < 16) (b1 : r1.testBit 1 = true) (r2 : Nat) (h2 : r2 < 16) (b2 : r2.testBit 2 = true) (r3 : Nat) (h3 : r3 < 16) (b3 : r3.testBit 3 = true) (a : Nat) (ha : a < 4) : rlc r0 r1 r2 r3 (rl3 r0 r1 r2 r3 a) a = true := by
  have q0 : rlD r0 = true := List.all_eq_true.mp rl_dec r0 (List.mem_range.mpr h0)
  have q1 : rlC r0 r1 = true := rl_step q0 b0 h1
  have q2 : rlB r0 r1 r2 = true := rl_step q1 b1 h2
  have q3 : rlA r0 r1 r2 r3 = true := rl_step q2 b2 h3
  exact rl_step (p := fun a => rlc r0 r1 r2 r3 (rl3 r0 r1 r2 r3 a) a) q3 b3 ha
theorem rst_lt {F v r : Nat} (hF : F < 16) (hr : r < 16) : rst F v r < 16 := by
  unfold rst
  split
  · exact Nat.or_lt_two_pow (n := 4) hF hr
  · exact hF
/-- the villages to which roads lead -/
def rlm (m : Nat → Nat) (a : Nat) : Nat := rl3 (rd m 0) (rd m 1) (rd m 2) (rd m 3) a
theorem rlm_ok (hp : okp m) {a : Nat} (ha : a < 4) : (rlm m a).testBit a = true ∧ rlm m a < 16 ∧ ∀ u v, u < 4 → (rlm m a).testBit u = true → nr m u v = true → (rlm m a).testBit v = true := by
  obtain ⟨h0, b0⟩ := hp.2.2.2.2.1 0 (by decide)
  obtain ⟨h1, b1⟩ := hp.2.2.2.2.1 1 (by decide)
  obtain ⟨h2, b2⟩ := hp.2.2.2.2.1 2 (by decide)
  obtain ⟨h3, b3⟩ := hp.2.2.2.2.1 3 (by decide)
  have h := rl_all _ h0 b0 _ h1 b1 _ h2 b2 _ h3 b3 a ha
  unfold rlc at h
  simp only [Bool.and_eq_true, Bool.or_eq_true, Bool.not_eq_true', decide_eq_true_eq] at h
  obtain ⟨⟨⟨⟨⟨g, gl⟩, g0⟩, g1⟩, g2⟩, g3⟩ := h
  refine ⟨g, gl, fun u v hu hF hn => ?_⟩
  have key : ∀ r, rlm m a ||| r = rlm m a → r.testBit v = true → (rlm m a).testBit v = true := fun r e hr => by
    rw [← e, Nat.testBit_or, hr, Bool.or_true]
  have : u = 0 ∨ u = 1 ∨ u = 2 ∨ u = 3 := by omega
  rcases this with rfl | rfl | rfl | rfl
  · rcases g0 with z | z
    · exact absurd (z.symm.trans hF) (by decide)
    · exact key _ z hn
  · rcases g1 with z | z
    · exact absurd (z.symm.trans hF) (by decide)
    · exact key _ z hn
  · rcases g2 with z | z
    · exact absurd (z.symm.trans hF) (by decide)
    · exact key _ z hn
  · rcases g3 with z | z
    · exact absurd (z.symm.trans hF) (by decide)
    · exact key _ z hn
theorem wy_road {o : Nat} {l : List Nat} {w : Nat} (h : wy m o l w = 0) : ¬ 0 < de m w ∧ nr m (at_ m w) (at_ m o) = true := by
  unfold wy at h
  by_cases c1 : 0 < de m w
  · rw [if_pos c1] at h; omega
  · refine ⟨c1, ?_⟩
    rw [if_neg c1] at h
    by_cases c2 : sh m w o = true
    · rw [if_pos c2] at h; omega
    · rw [if_neg c2] at h
      by_cases c3 : (l.any fun x => sh m w x) = true
      · rw [if_pos c3] at h; omega
      · rw [if_neg c3] at h
        by_cases c4 : nr m (at_ m w) (at_ m o) = true
        · exact c4
        · rw [if_neg c4] at h; omega
/-- all that is come to lies where roads lead -/
theorem BI_road (hp : okp m) (hs0 : okS m s0) {c : Cf} (hb : BI m s0 c) : ∀ b i, i < b → i < c.1 → (rlm m (at_ m s0.1)).testBit (at_ m (c.2.1 i).1) = true := by
  have ha := hp.2.1 s0.1 hs0.1
  obtain ⟨r1, r2, r3⟩ := rlm_ok hp ha
  intro b
  induction b with
  | zero => intro i h; omega
  | succ b ih =>
    intro i hib hi
    by_cases e : i = 0
    · rw [e, hb.2.1]; exact r1
    · obtain ⟨q1, q2, q3⟩ := hb.2.2.2.2.2 i (by omega) hi
      have h1 := ih (c.2.2 i) (by omega) (by omega)
      obtain ⟨-, h2⟩ := wy_road q2
      have o1 := (hb.2.2.2.1 (c.2.2 i) (by omega)).1.1
      have o2 := (hb.2.2.2.1 i hi).1.1
      have v1 := hp.2.1 _ o1
      have v2 := hp.2.1 _ o2
      rw [hp.2.2.2.2.2 _ _ v2 v1] at h2
      exact r3 _ _ v1 h1 h2
theorem no_road (hp : okp m) (hs0 : okS m s0) {c : Cf} (hb : BI m s0 c) {w : Nat} (hw : w < vW m) (h : (rlm m (at_ m s0.1)).testBit (at_ m w) = false ∨ 0 < de m w) {i : Nat} (hi : i < c.1) : ¬ gok m (c.2.1 i) w := fun hg => by
  obtain ⟨d, h2⟩ := wy_road hg
  rcases h with h | h
  · have h1 := BI_road hp hs0 hb (i + 1) i (Nat.lt_succ_self i) hi
    have v1 := hp.2.1 _ (hb.2.2.2.1 i hi).1.1
    have v2 := hp.2.1 _ hw
    rw [hp.2.2.2.2.2 _ _ v2 v1] at h2
    have := (rlm_ok hp (hp.2.1 s0.1 hs0.1)).2.2 _ _ v1 h1 h2
    rw [h] at this
    exact absurd this (by decide)
  · exact d h
theorem k_roadsLead (hn : 10 ≤ n) (hS : FS S f) (hR : FR S f m) (hp : okp m) {a b : Nat} (ha : a < vW m) (hb : b < vW m) : fnX1_roadsLead n S f (nI a) (nI b) = some (bI ((rlm m (at_ m a)).testBit (at_ m b))) := by
  have h24 := hp.1
  have va' := hp.2.1 a ha
  have vb' := hp.2.1 b hb
  have ka := k_has (n := n) hS hR hp ha
  have kb := k_has (n := n) hS hR hp hb
  have rows := hR.2.2.2.2.2.2.1
  have h16 : ∀ j, j < 4 → rd m j < 16 := fun j hj => (hp.2.2.2.2.1 j hj).1
  have st : ∀ (K : Nat → Int32 → Int32 → Int32 → Option Int32) (q j F : Nat) (x2 x4 : Int32), j < 4 → F < 16 → cX1_roadsLead_33 n K S (q + 1) f x2 (nI F) x4 (nI j) = cX1_roadsLead_33 n K S q f x2 (nI (rst F j (rd m j))) x4 (nI (j + 1)) := fun K q j F x2 x4 hj hF => by
    have nj : ¬ (4 : Int32) ≤ nI j := by rw [z4, n_le (by decide) (by omega)]; omega
    have bt := z_bit0 (x := F) (j := j) (by omega) (by omega)
    have hr := h16 j hj
    rw [cX1_roadsLead_33, if_neg nj]
    by_cases c : F.testBit j = true
    · rw [if_neg (by rw [bt, c]; decide)]
      repeat (first | (conv => (lhs; arg 1; simp (disch := first | assumption | omega) only [tk_gI, tk_gL, tk_gR, tk_pI, tk_pL, rv_aI, rv_aL, rv_aR, rv_uI, rv_uL, rv_uB, rv_uZ, pu_ckI, pu_ckL, pu_lnI, pu_lnL, tk_rI, tk_rL, Option.bind_some, Option.map_some, rv_lt, tk_ix, hS, rows j hj])); first | rw [Option.bind_some] | rw [bp_s] | rw [if_true] | rw [if_false] | rw [rv_lt_eq] | rw [if_pos (by omega)] | rw [if_neg (by omega)])
      rw [fa_or, rst, if_pos c, z1, nI_add]
    · have c' : F.testBit j = false := by cases h : F.testBit j
                                          · rfl
                                          · exact absurd h c
      rw [if_pos (by rw [bt, c']), rst, if_neg c, rv_lt, z1, nI_add]
  have round : ∀ (x2 : Int32) (q F r : Nat), F < 16 → r < 4 → 1 ≤ r → cX1_roadsLead_24 n S (q + 1) f x2 (nI F) (nI r) = cX1_roadsLead_24 n S q f x2 (nI (rrd (rd m 0) (rd m 1) (rd m 2) (rd m 3) F)) (nI (r + 1)) := fun x2 q F r hF hr hr1 => by
    have nr4 : ¬ (4 : Int32) ≤ nI r := by rw [z4, n_le (by decide) (by omega)]; omega
    have f0 := rst_lt (v := 0) hF (h16 0 (by decide))
    have f1 := rst_lt (v := 1) f0 (h16 1 (by decide))
    have f2 := rst_lt (v := 2) f1 (h16 2 (by decide))
    have f3 := rst_lt (v := 3) f2 (h16 3 (by decide))
    rw [cX1_roadsLead_24, if_neg nr4]
    refine un 5 (F := fun z => cX1_roadsLead_33 n (fun a0 x2 x3 x4 => cX1_roadsLead_24 n S q a0 x2 x3 x4) S z f x2 (nI F) (nI r) (nI 0)) (fun z => ?_) (by omega)
    show cX1_roadsLead_33 n (fun a0 x2 x3 x4 => cX1_roadsLead_24 n S q a0 x2 x3 x4) S (z + 4 + 1) f x2 (nI F) (nI r) (nI 0) = _
    rw [st _ _ 0 _ _ _ (by decide) hF, st _ _ 1 _ _ _ (by decide) f0, st _ _ 2 _ _ _ (by decide) f1, st _ _ 3 _ _ _ (by decide) f2, cX1_roadsLead_33, if_pos (show (4 : Int32) ≤ nI (3 + 1) by decide), rv_lt, z1, nI_add]
    rfl
  have rr : ∀ F, F < 16 → rrd (rd m 0) (rd m 1) (rd m 2) (rd m 3) F < 16 := fun F hF => rst_lt (rst_lt (rst_lt (rst_lt hF (h16 0 (by decide))) (h16 1 (by decide))) (h16 2 (by decide))) (h16 3 (by decide))
  have p16 : 2 ^ at_ m a < 16 := show 2 ^ at_ m a < 2 ^ 4 from Nat.pow_lt_pow_right (by decide) va'
  have r1 := rr _ p16
  have r2 := rr _ r1
  have r3 := rr _ r2
  have g1 := hR.2.2.2.1 a ha
  have g2 := hR.2.2.2.1 b hb
  have sh := z_shl (j := at_ m a) (by omega)
  have bt := z_bit0 (x := rlm m (at_ m a)) (j := at_ m b) (Nat.lt_trans r3 (by decide)) (by omega)
  have fin : ∀ q, cX1_roadsLead_24 n S (q + 1) f (nI b) (nI (rlm m (at_ m a))) (nI 4) = some (bI ((rlm m (at_ m a)).testBit (at_ m b))) := fun q => by
    rw [cX1_roadsLead_24, if_pos (show (4 : Int32) ≤ nI 4 by decide), cX1_roadsLead_70]
    repeat (first | (conv => (lhs; arg 1; simp (disch := first | assumption | omega) only [tk_gI, tk_gL, tk_gR, tk_pI, tk_pL, rv_aI, rv_aL, rv_aR, rv_uI, rv_uL, rv_uB, rv_uZ, pu_ckI, pu_ckL, pu_lnI, pu_lnL, tk_rI, tk_rL, Option.bind_some, Option.map_some, rv_lt, tk_ix, hS, kb])); first | rw [Option.bind_some] | rw [bp_s] | rw [if_true] | rw [if_false] | rw [rv_lt_eq] | rw [if_pos (by omega)] | rw [if_neg (by omega)])
    rw [if_neg (show ¬ nI 1 = (0 : Int32) by decide)]
    repeat (first | (conv => (lhs; arg 1; simp (disch := first | assumption | omega) only [tk_gI, tk_gL, tk_gR, tk_pI, tk_pL, rv_aI, rv_aL, rv_aR, rv_uI, rv_uL, rv_uB, rv_uZ, pu_ckI, pu_ckL, pu_lnI, pu_lnL, tk_rI, tk_rL, Option.bind_some, Option.map_some, rv_lt, tk_ix, hS, g2])); first | rw [Option.bind_some] | rw [bp_s] | rw [if_true] | rw [if_false] | rw [rv_lt_eq] | rw [if_pos (by omega)] | rw [if_neg (by omega)])
    cases hx : (rlm m (at_ m a)).testBit (at_ m b)
    · rw [if_pos (bt.mpr hx)]; rfl
    · rw [if_neg (by rw [bt, hx]; decide)]; rfl
  rw [fnX1_roadsLead]
  repeat (first | (conv => (lhs; arg 1; simp (disch := first | assumption | omega) only [tk_gI, tk_gL, tk_gR, tk_pI, tk_pL, rv_aI, rv_aL, rv_aR, rv_uI, rv_uL, rv_uB, rv_uZ, pu_ckI, pu_ckL, pu_lnI, pu_lnL, tk_rI, tk_rL, Option.bind_some, Option.map_some, rv_lt, tk_ix, hS, ka])); first | rw [Option.bind_some] | rw [bp_s] | rw [if_true] | rw [if_false] | rw [rv_lt_eq] | rw [if_pos (by omega)] | rw [if_neg (by omega)])
  rw [if_neg (show ¬ nI 1 = (0 : Int32) by decide)]
  repeat (first | (conv => (lhs; arg 1; simp (disch := first | assumption | omega) only [tk_gI, tk_gL, tk_gR, tk_pI, tk_pL, rv_aI, rv_aL, rv_aR, rv_uI, rv_uL, rv_uB, rv_uZ, pu_ckI, pu_ckL, pu_lnI, pu_lnL, tk_rI, tk_rL, Option.bind_some, Option.map_some, rv_lt, tk_ix, hS, g1])); first | rw [Option.bind_some] | rw [bp_s] | rw [if_true] | rw [if_false] | rw [rv_lt_eq] | rw [if_pos (by omega)] | rw [if_neg (by omega)])
  rw [sh, z1]
  refine un 4 (F := fun z => cX1_roadsLead_24 n S z f (nI b) (nI (2 ^ at_ m a)) (nI 1)) (fun z => ?_) (by omega)
  show cX1_roadsLead_24 n S (z + 3 + 1) f (nI b) (nI (2 ^ at_ m a)) (nI 1) = _
  rw [round _ _ _ 1 p16 (by decide) (by decide), round _ _ _ 2 r1 (by decide) (by decide), round _ _ _ 3 r2 (by decide) (by decide)]
  exact fin z
end
