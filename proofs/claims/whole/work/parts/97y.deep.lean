/-! EVER: the class goes deep -/
section
variable {n : Nat} {S : rvS} {m : Nat → Nat} {s0 : St} {wd : Nat → List Nat}
theorem bs_clr (p : Nat → Bool) {k : Nat} (hk : k < 64) : bs p 64 &&& (2 ^ k ^^^ (2 ^ 64 - 1)) = bs (fun i => p i && !decide (i = k)) 64 := by
  refine Nat.eq_of_testBit_eq fun i => ?_
  rw [Nat.testBit_and, bs_bit, bs_bit, Nat.testBit_xor, Nat.testBit_two_pow, Nat.testBit_two_pow_sub_one]
  by_cases e : i < 64
  · rw [decide_eq_true e]
    by_cases c : i = k
    · rw [decide_eq_true c, decide_eq_true c.symm]; simp
    · have c' : ¬ k = i := fun z => c z.symm
      rw [decide_eq_false c, decide_eq_false c']; simp
  · rw [decide_eq_false e]; simp
theorem k_put0 {r M : Nat} {b : Nat → Bool} (hrw : rwb r = true) (hr : rv_ln S 1 r = some 5860) (hM : M ≤ 375000) (h : SN S r M b) {x : Nat} (hx : x ≤ M) : ∃ S', fnX2_put n S r (nI x) (nI 0) = some S' ∧ rvf [r] S S' ∧ SN S' r M (fun y => b y && !decide (y = x)) := by
  have h1 : x / 64 < M / 64 + 1 := by omega
  have h2 := h (x / 64) h1
  have h3 : nI x >>> (nI 6 &&& 31) = nI (x / 64) := z_sshr (j := 6) (by omega) (by decide)
  have h4 : ¬ nI (x / 64) < nI 0 := nI_pos (by omega)
  have h5 : ¬ nI 5860 ≤ nI (x / 64) := by rw [n_le (by decide) (by omega)]; omega
  have lt : x % 64 < 64 := Nat.mod_lt x (by decide)
  have m1 : -lN 1 = lN (2 ^ 64 - 1) := by decide
  refine ⟨rv_sL S r (x / 64) (lN (bs (fun i => b (64 * (x / 64) + i)) 64 &&& (2 ^ (x % 64) ^^^ (2 ^ 64 - 1)))), ?_, (rvf.rf _ _).wL hrw (by simp), fun k hk => ?_⟩
  · rw [fnX2_put, z6, h3, rv_lt, z0, if_neg h4, hr, Option.bind_some]
    rw [if_neg (show ¬ Int32.ofNat 5860 ≤ nI (x / 64) from h5), z63, n_and63, y63, y1, m_shl lt, rv_lt, if_pos rfl, rv_aL, hr, Option.bind_some, tk_ix (by omega) (by decide), Option.bind_some, Option.bind_some, h2, m1, lN_xor, fb_andL, rv_uL, hr, Option.bind_some, tk_ix (by omega) (by decide), Option.bind_some, Option.bind_some]
  · by_cases e : k = x / 64
    · rw [e, rv_sL_eq, bs_clr _ lt]
      refine congrArg lN (bs_cong fun i hi => ?_)
      show (b (64 * (x / 64) + i) && !decide (i = x % 64)) = (b (64 * (x / 64) + i) && !decide (64 * (x / 64) + i = x))
      congr 2
      exact decide_eq_decide.mpr ⟨fun z => by rw [z, Nat.div_add_mod], fun z => by omega⟩
    · rw [rv_sL_k _ _ e, h k hk]
      refine congrArg lN (bs_cong fun i hi => ?_)
      show b (64 * k + i) = (b (64 * k + i) && !decide (64 * k + i = x))
      rw [decide_eq_false (show ¬ 64 * k + i = x by omega), Bool.not_false, Bool.and_true]
def kin (W : Nat) (l : List St) (x : Nat) : Bool := l.any fun s => decide (kcs W s = x)
theorem kin_mem {l : List St} (hl : ∀ s ∈ l, okS m s) {s : St} (hs : okS m s) : kin (vW m) l (kcs (vW m) s) = true ↔ s ∈ l := by
  rw [kin, List.any_eq_true]
  constructor
  · rintro ⟨t, h1, h2⟩
    have := kc_inj (hl t h1) hs (of_decide_eq_true h2)
    rw [← this]; exact h1
  · intro h
    exact ⟨s, h, decide_eq_true rfl⟩
theorem kin_cons (W : Nat) (s : St) (l : List St) (x : Nat) : kin W (s :: l) x = (kin W l x || decide (x = kcs W s)) := by
  rw [kin, List.any_cons, Bool.or_comm]
  congr 1
  exact decide_eq_decide.mpr ⟨fun z => z.symm, fun z => z.symm⟩
theorem kin_perm (W : Nat) {l l' : List St} (h : ∀ s, s ∈ l ↔ s ∈ l') (x : Nat) : kin W l x = kin W l' x := by
  refine Bool.eq_iff_iff.mpr ?_
  rw [kin, kin, List.any_eq_true, List.any_eq_true]
  constructor
  · rintro ⟨s, h1, h2⟩; exact ⟨s, (h s).mp h1, h2⟩
  · rintro ⟨s, h1, h2⟩; exact ⟨s, (h s).mpr h1, h2⟩
abbrev KF : List Nat := [112, 113, 114]
/-- the pile, what is closed -/
def DQ (S : rvS) (m : Nat → Nat) (stk cl : List St) : Prop := S.2.1 111 3 = nI (vW m) ∧ SN S 112 (kMs (vW m)) (kin (vW m) (stk ++ cl)) ∧ SN S 113 (kMs (vW m)) (kin (vW m) stk) ∧ ∀ j s, stk.reverse[j]? = some s → S.2.2.1 114 j = lN (sB s.1 s.2)
theorem SN_eq {r M : Nat} {b b' : Nat → Bool} (h : SN S r M b) (e : ∀ x, b x = b' x) : SN S r M b' := by
  have : b = b' := funext e
  rw [← this]; exact h
theorem k_enter (hn : 50 ≤ n) (hB : rv_B S) (hk : okm m) {stk cl : List St} (hQ : DQ S m stk cl) (hd : stk.length < 266240) {s : St} (hs : okS m s) : ∃ S', fnX2_enter n S 111 (nI (sB s.1 s.2)) (nI stk.length) = some S' ∧ rvf KF S S' ∧ DQ S' m (s :: stk) cl := by
  obtain ⟨hp, hc, -⟩ := id hk
  obtain ⟨q1, q2, q3, q4⟩ := hQ
  have h24 := hp.1
  have kM' := kM_le h24
  have kl := kc_lt hs
  have sl := sB_lt hp hs.1 hs.2
  have kc := k_codeOf (n := n) (by omega) hB hp q1 hs.1 hs.2
  obtain ⟨S1, e1, f1, g1⟩ := k_put (n := n) rfl (rn_112 hB) kM' q2 (x := kcs (vW m) s) (by omega)
  have hB1 := f1.B hB
  have kc1 := k_codeOf (n := n) (by omega) hB1 hp ((f1.at (a := 111) (k := 3) rfl).trans q1) hs.1 hs.2
  obtain ⟨S2, e2, f2, g2⟩ := k_put (n := n) rfl (rn_113 hB1) kM' (q3.f f1 rfl rfl) (x := kcs (vW m) s) (by omega)
  have hB2 := f2.B hB1
  obtain ⟨S3, eS3⟩ : ∃ S3, S3 = rv_sL S2 114 stk.length (lN (sB s.1 s.2)) := ⟨_, rfl⟩
  have f3' : rvf [114] S2 S3 := by rw [eS3]; exact (rvf.rf _ _).wL rfl rfl
  have f : rvf KF S S3 := (f1.mono rfl).tr ((f2.mono rfl).tr (f3'.mono rfl))
  have c1 : ¬ nI stk.length < 0 := nI_pos (by omega)
  have c2 : ¬ (266240 : Int32) ≤ nI stk.length := by rw [z266240, n_le (by decide) (by omega)]; omega
  refine ⟨S3, ?_, f, (f.at (a := 111) (k := 3) rfl).trans q1, ?_, ?_, fun j t hj => ?_⟩
  · rw [fnX2_enter, if_neg c1, if_neg c2, z1]
    repeat (first | (conv => (lhs; arg 1; simp (disch := first | assumption | omega) only [tk_gI, tk_gL, tk_gR, tk_pI, tk_pL, rv_aI, rv_aL, rv_aR, rv_uI, rv_uL, rv_uB, rv_uZ, pu_ckI, pu_ckL, pu_lnI, pu_lnL, tk_rI, tk_rL, Option.bind_some, Option.map_some, rv_lt, tk_ix, rc_111 hB, rf_of hB (show (111, 0, 112) ∈ rv_rf0 by decide), kc, e1, rc_111 hB1, rf_of hB1 (show (111, 1, 113) ∈ rv_rf0 by decide), kc1, e2, rc_111 hB2, rf_of hB2 (show (111, 2, 114) ∈ rv_rf0 by decide)])); first | rw [Option.bind_some] | rw [bp_s] | rw [if_true] | rw [if_false] | rw [rv_lt_eq] | rw [if_pos (by omega)] | rw [if_neg (by omega)])
    rw [n_l (by omega)]
    repeat (first | (conv => (lhs; arg 1; simp (disch := first | assumption | omega) only [tk_gI, tk_gL, tk_gR, tk_pI, tk_pL, rv_aI, rv_aL, rv_aR, rv_uI, rv_uL, rv_uB, rv_uZ, pu_ckI, pu_ckL, pu_lnI, pu_lnL, tk_rI, tk_rL, Option.bind_some, Option.map_some, rv_lt, tk_ix, rn_114 hB2, ← eS3])); first | rw [Option.bind_some] | rw [bp_s] | rw [if_true] | rw [if_false] | rw [rv_lt_eq] | rw [if_pos (by omega)] | rw [if_neg (by omega)])
  · exact ((SN_eq g1 fun x => (kin_cons (vW m) s (stk ++ cl) x).symm).f f2 rfl rfl).f f3' rfl rfl
  · exact (SN_eq g2 fun x => (kin_cons (vW m) s stk x).symm).f f3' rfl rfl
  · rw [List.reverse_cons] at hj
    by_cases c : j < stk.length
    · rw [List.getElem?_append_left (by rw [List.length_reverse]; exact c)] at hj
      rw [eS3, rv_sL_k _ _ (by omega), f2.rowL rfl rfl, f1.rowL rfl rfl]
      exact q4 j t hj
    · by_cases e : j = stk.length
      · rw [e, List.getElem?_append_right (by rw [List.length_reverse]; exact Nat.le_refl _), List.length_reverse, Nat.sub_self] at hj
        have : s = t := Option.some.inj hj
        rw [e, eS3, rv_sL_eq, this]
      · rw [List.getElem?_eq_none (by rw [List.length_append, List.length_reverse]; show stk.length + 1 ≤ j; omega)] at hj
        exact absurd hj (by simp)
theorem and_shl {X f : Nat} (hX : X < 2147483648) (hf : f < 32) : nI X &&& ((-1 : Int32) <<< (nI f &&& 31)) = nI (lb X f) := by
  rw [show (-1 : Int32) = nI (2 ^ 32 - 1) by decide, z31, n_ushl _ hf, fa_and]
  refine congrArg nI (Nat.eq_of_testBit_eq fun i => ?_)
  rw [Nat.testBit_and, Nat.testBit_mul_two_pow, Nat.testBit_two_pow_sub_one, lb_bit]
  by_cases c : X.testBit i = true
  · have hi : i < 31 := by
      refine Nat.lt_of_not_le fun hle => ?_
      have : X < 2 ^ i := Nat.lt_of_lt_of_le hX (Nat.pow_le_pow_right (n := 2) (by decide) hle)
      rw [Nat.testBit_lt_two_pow this] at c
      exact absurd c (by decide)
    rw [c, Bool.true_and, Bool.and_true, decide_eq_true (show i - f < 32 by omega), Bool.and_true]
  · have c' : X.testBit i = false := by
      cases h : X.testBit i
      · rfl
      · exact absurd h c
    rw [c', Bool.false_and, Bool.and_false]
theorem k_nextH (hn : 50 ≤ n) (hB : rv_B S) (hR : CR S 67 m) (hk : okm m) {stk cl : List St} (hQ : DQ S m stk cl) (hall : ∀ s ∈ stk ++ cl, okS m s) (hnd : (stk ++ cl).Nodup) {x : St} (hx : okS m x) {f : Nat} (hf : f ≤ vW m) :
    (∃ w, f ≤ w ∧ w < vW m ∧ gok m x w ∧ nx m x w ∉ cl ∧ (∀ w', f ≤ w' → w' < w → gok m x w' → nx m x w' ∈ cl) ∧ fnX2_nextHand n S 111 67 (nI (sB x.1 x.2)) (nI f) = some (nI w)) ∨
    ((∀ w, f ≤ w → w < vW m → gok m x w → nx m x w ∈ cl) ∧ fnX2_nextHand n S 111 67 (nI (sB x.1 x.2)) (nI f) = some iM) := by
  obtain ⟨hp, hc, -⟩ := id hk
  obtain ⟨q1, q2, q3, q4⟩ := hQ
  have h24 := hp.1
  have kM' := kM_le h24
  have hv : vb 67 := Or.inl rfl
  have hps := ps_ok hc hx.1 hx.2
  have ka := k2_after (n := n) hB hv hR hk hx.1 hx.2 (w := 0) (by decide)
  have kg := k2_goers (n := n) (by omega) hB hv hR hk hx.1 hx.2
  have kc := k_codeOf (n := n) (by omega) hB hp q1 (o := 0) (by have := hx.1; omega) hps
  have k30 : kcs (vW m) (0, ps m x.1 x.2) = k3s (vW m) (ps m x.1 x.2) := Nat.add_zero _
  rw [k30] at kc
  have hX31 : gs m x.1 x.2 < 2147483648 := bs_24 _ h24
  have hX : gs m x.1 x.2 < 2 ^ vW m := bs_lt _ _
  have r112 := rf_of hB (show (111, 0, 112) ∈ rv_rf0 by decide)
  have r113 := rf_of hB (show (111, 1, 113) ∈ rv_rf0 by decide)
  have top : fnX2_nextHand n S 111 67 (nI (sB x.1 x.2)) (nI f) = cX2_nextHand_23 n S n 111 (nI (k3s (vW m) (ps m x.1 x.2))) (nI (lb (gs m x.1 x.2) f)) := by
    rw [fnX2_nextHand, z0, ka, Option.bind_some, rc_111 hB, Option.bind_some, kc, Option.bind_some, kg, Option.bind_some, and_shl hX31 (by omega), rv_lt]
  rw [top]
  have key : ∀ r q j, j + r = vW m → r < q → f ≤ j → (∀ w', f ≤ w' → w' < j → gok m x w' → nx m x w' ∈ cl) →
      (∃ w, f ≤ w ∧ w < vW m ∧ gok m x w ∧ nx m x w ∉ cl ∧ (∀ w', f ≤ w' → w' < w → gok m x w' → nx m x w' ∈ cl) ∧ cX2_nextHand_23 n S q 111 (nI (k3s (vW m) (ps m x.1 x.2))) (nI (lb (gs m x.1 x.2) j)) = some (nI w)) ∨
      ((∀ w, f ≤ w → w < vW m → gok m x w → nx m x w ∈ cl) ∧ cX2_nextHand_23 n S q 111 (nI (k3s (vW m) (ps m x.1 x.2))) (nI (lb (gs m x.1 x.2) j)) = some iM) := by
    intro r
    induction r with
    | zero =>
      intro q j hj hq hfj hlow
      obtain ⟨q, rfl⟩ : ∃ q', q = q' + 1 := ⟨q - 1, by omega⟩
      have e : j = vW m := by omega
      subst e
      refine Or.inr ⟨hlow, ?_⟩
      rw [lb_end hX, cX2_nextHand_23, if_pos (show nI 0 = (0 : Int32) from rfl)]
      rfl
    | succ r ih =>
      intro q j hj hq hfj hlow
      obtain ⟨q, rfl⟩ : ∃ q', q = q' + 1 := ⟨q - 1, by omega⟩
      have hjW : j < vW m := by omega
      by_cases hg : gok m x j
      · have hbit : (gs m x.1 x.2).testBit j = true := by rw [gs_bit hjW]; exact decide_eq_true hg
        obtain ⟨l1, l2⟩ := lb_I hbit hX31
        have ll := lb_lowest n S hbit (by omega)
        have hs : okS m (nx m x j) := nx_ok hk hx hjW
        have kl := kc_lt hs
        have sm : nI (k3s (vW m) (ps m x.1 x.2)) + nI j = nI (kcs (vW m) (nx m x j)) := nI_add _ _
        have i112 := k_isIn (n := n) (rn_112 hB) kM' q2 (x := kcs (vW m) (nx m x j)) (by omega)
        have i113 := k_isIn (n := n) (rn_113 hB) kM' q3 (x := kcs (vW m) (nx m x j)) (by omega)
        have m112 := kin_mem hall hs
        have m113 := kin_mem (l := stk) (fun s h => hall s (List.mem_append_left _ h)) hs
        have one : cX2_nextHand_23 n S (q + 1) 111 (nI (k3s (vW m) (ps m x.1 x.2))) (nI (lb (gs m x.1 x.2) j)) = (if kin (vW m) (stk ++ cl) (kcs (vW m) (nx m x j)) = true then (if kin (vW m) stk (kcs (vW m) (nx m x j)) = true then some (nI j) else cX2_nextHand_23 n S q 111 (nI (k3s (vW m) (ps m x.1 x.2))) (nI (lb (gs m x.1 x.2) (j + 1)))) else some (nI j)) := by
          rw [cX2_nextHand_23, if_neg l2, ll, Option.bind_some, sm]
          repeat (first | (conv => (lhs; arg 1; simp (disch := first | assumption | omega) only [tk_gI, tk_gL, tk_gR, tk_pI, tk_pL, rv_aI, rv_aL, rv_aR, rv_uI, rv_uL, rv_uB, rv_uZ, pu_ckI, pu_ckL, pu_lnI, pu_lnL, tk_rI, tk_rL, Option.bind_some, Option.map_some, rv_lt, tk_ix, rc_111 hB, r112, i112])); first | rw [Option.bind_some] | rw [bp_s] | rw [if_true] | rw [if_false] | rw [rv_lt_eq] | rw [if_pos (by omega)] | rw [if_neg (by omega)])
          cases kin (vW m) (stk ++ cl) (kcs (vW m) (nx m x j))
          · rw [if_neg nft, bI_f, if_pos (by rfl)]
          · rw [if_pos rfl, bI_t, if_neg (by decide)]
            repeat (first | (conv => (lhs; arg 1; simp (disch := first | assumption | omega) only [tk_gI, tk_gL, tk_gR, tk_pI, tk_pL, rv_aI, rv_aL, rv_aR, rv_uI, rv_uL, rv_uB, rv_uZ, pu_ckI, pu_ckL, pu_lnI, pu_lnL, tk_rI, tk_rL, Option.bind_some, Option.map_some, rv_lt, tk_ix, rc_111 hB, r113, i113])); first | rw [Option.bind_some] | rw [bp_s] | rw [if_true] | rw [if_false] | rw [rv_lt_eq] | rw [if_pos (by omega)] | rw [if_neg (by omega)])
            cases kin (vW m) stk (kcs (vW m) (nx m x j))
            · rw [if_neg nft, bI_f, if_pos (by rfl), l1]
            · rw [if_pos rfl, bI_t, if_neg (by decide)]
        rw [one]
        by_cases c1 : nx m x j ∈ stk ++ cl
        · rw [if_pos (m112.mpr c1)]
          by_cases c2 : nx m x j ∈ stk
          · rw [if_pos (m113.mpr c2)]
            refine Or.inl ⟨j, hfj, hjW, hg, fun z => ?_, hlow, rfl⟩
            exact (List.nodup_append.mp hnd).2.2 _ c2 _ z rfl
          · rw [if_neg (fun z => c2 (m113.mp z))]
            have inc : nx m x j ∈ cl := (List.mem_append.mp c1).resolve_left c2
            refine ih q (j + 1) (by omega) (by omega) (by omega) fun w' h1 h2 h3 => ?_
            by_cases e : w' = j
            · rw [e]; exact inc
            · exact hlow w' h1 (by omega) h3
        · rw [if_neg (fun z => c1 (m112.mp z))]
          exact Or.inl ⟨j, hfj, hjW, hg, fun z => c1 (List.mem_append_right _ z), hlow, rfl⟩
      · have hbit : (gs m x.1 x.2).testBit j = false := by rw [gs_bit hjW]; exact decide_eq_false hg
        rw [lb_no hbit]
        refine ih (q + 1) (j + 1) (by omega) (by omega) (by omega) fun w' h1 h2 h3 => ?_
        by_cases e : w' = j
        · rw [e] at h3; exact absurd h3 hg
        · exact hlow w' h1 (by omega) h3
  exact key (vW m - f) n f (by omega) (by omega) (Nat.le_refl f) (fun w' h1 h2 _ => by omega)
end
