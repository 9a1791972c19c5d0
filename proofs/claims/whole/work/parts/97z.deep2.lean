/-! EVER: the class, whole -/
section
variable {n : Nat} {S : rvS} {m : Nat → Nat} {s0 : St} {wd : Nat → List Nat}
theorem DQ_top {x : St} {t cl : List St} (h : DQ S m (x :: t) cl) : S.2.2.1 114 t.length = lN (sB x.1 x.2) := by
  refine h.2.2.2 t.length x ?_
  rw [List.reverse_cons, List.getElem?_append_right (by rw [List.length_reverse]; exact Nat.le_refl _), List.length_reverse, Nat.sub_self]
  rfl
theorem DQ_pop {S' : rvS} {x : St} {t cl : List St} (hall : ∀ s ∈ (x :: t) ++ cl, okS m s) (hnd : ((x :: t) ++ cl).Nodup) (h : DQ S m (x :: t) cl) (f : rvf [113] S S') (h1 : SN S' 113 (kMs (vW m)) (fun y => kin (vW m) (x :: t) y && !decide (y = kcs (vW m) x))) : DQ S' m t (x :: cl) := by
  obtain ⟨q1, q2, q3, q4⟩ := h
  have hx := hall x (List.mem_append_left _ List.mem_cons_self)
  have nx' : x ∉ t := fun z => (List.nodup_cons.mp hnd).1 (List.mem_append_left _ z)
  refine ⟨(f.at (a := 111) (k := 3) rfl).trans q1, SN_eq (q2.f f rfl rfl) fun y => kin_perm _ (fun s => ?_) y, SN_eq h1 fun y => ?_, fun j s hj => ?_⟩
  · rw [List.mem_append, List.mem_append, List.mem_cons, List.mem_cons]
    constructor
    · rintro ((h | h) | h)
      · exact Or.inr (Or.inl h)
      · exact Or.inl h
      · exact Or.inr (Or.inr h)
    · rintro (h | h | h)
      · exact Or.inl (Or.inr h)
      · exact Or.inl (Or.inl h)
      · exact Or.inr h
  · rw [kin_cons]
    by_cases e : y = kcs (vW m) x
    · rw [decide_eq_true e, Bool.or_true, Bool.not_true, Bool.true_and]
      cases hk : kin (vW m) t y
      · rfl
      · rw [e] at hk
        exact absurd ((kin_mem (l := t) (fun s hs => hall s (List.mem_append_left _ (List.mem_cons_of_mem _ hs))) hx).mp hk) nx'
    · rw [decide_eq_false e, Bool.or_false, Bool.not_false, Bool.and_true]
  · have lj : j < t.length := by
      have := (List.getElem?_eq_some_iff.mp hj).1
      rw [List.length_reverse] at this
      exact this
    rw [f.rowL rfl rfl]
    refine q4 j s ?_
    rw [List.reverse_cons, List.getElem?_append_left (by rw [List.length_reverse]; exact lj)]
    exact hj
theorem k_deep (hn : 50 ≤ n) (hB : rv_B S) (hR : CR S 67 m) (hk : okm m) (hs0 : okS m s0) (hl0 : s0.2.length ≤ vN m) : ∀ r (stk cl : List St) (f step q : Nat) (S1 : rvS), rvf KF S S1 → DI m s0 stk cl f → DQ S1 m stk cl → f ≤ vW m → step + 1 = 2 * cl.length + stk.length → 511290 ≤ step + r → r < q → ∃ b S', cX2_goesForEver_29 n q S1 111 67 (nI stk.length) (nI f) (nI step) = some (bI b, S') ∧ rvf KF S S' ∧ (b = true ↔ LONG m s0) := by
  obtain ⟨hp, hc, -⟩ := id hk
  have h24 := hp.1
  have hv : vb 67 := Or.inl rfl
  intro r
  induction r with
  | zero =>
    intro stk cl f step q S1 f1 hI hQ hf hst hr hq
    have hfew := few_St hk hs0 hl0 hI.n hI.r
    rw [List.length_append] at hfew
    omega
  | succ r ih =>
    intro stk cl f step q S1 f1 hI hQ hf hst hr hq
    obtain ⟨q, rfl⟩ : ∃ q', q = q' + 1 := ⟨q - 1, by omega⟩
    have hfew := few_St hk hs0 hl0 hI.n hI.r
    rw [List.length_append] at hfew
    have hB1 := f1.B hB
    have hR1 := CR_K hR f1 rfl
    have c1 : ¬ (1064960 : Int32) ≤ nI step := by rw [show (1064960 : Int32) = nI 1064960 by rw [fa_lit], n_le (by decide) (by omega)]; omega
    match stk, hI, hQ, hst, hfew with
    | [], hI, hQ, hst, hfew =>
      refine ⟨false, S1, ?_, f1, fun z => absurd z (by decide), fun z => absurd z (DI_end hI)⟩
      rw [cX2_goesForEver_29, if_neg c1, if_pos (show nI ([] : List St).length ≤ 0 by decide)]
      rfl
    | x :: t, hI, hQ, hst, hfew =>
      have hlen : (x :: t).length = t.length + 1 := rfl
      rw [hlen] at hst hfew
      have hall : ∀ s ∈ (x :: t) ++ cl, okS m s := fun s hs => by
        obtain ⟨k, hk'⟩ := hI.r s hs
        exact (Rch_ok hk hs0 hl0 k s hk').1
      have hx := hall x (List.mem_append_left _ List.mem_cons_self)
      have sl := sB_lt hp hx.1 hx.2
      have c2 : ¬ nI (x :: t).length ≤ 0 := by rw [hlen, z0, n_le (by omega) (by decide)]; omega
      have c3 : ¬ (266240 : Int32) ≤ nI (x :: t).length := by rw [hlen, z266240, n_le (by decide) (by omega)]; omega
      have q114 := DQ_top hQ
      have sub : nI (x :: t).length - (1 : Int32) = nI t.length := by rw [hlen, z1, z_sub (by omega), Nat.add_sub_cancel]
      have msk : (lN (sB x.1 x.2)).toInt32 &&& (1048575 : Int32) = nI (sB x.1 x.2) := by
        have := fa_mask (sB x.1 x.2) 20
        rw [show (2 : Nat) ^ 20 = 1048576 by decide] at this
        rw [lN_I, z1048575]
        rw [show (1048576 : Nat) - 1 = 1048575 by decide] at this
        rw [this, Nat.mod_eq_of_lt sl]
      have r113 := rf_of hB1 (show (111, 1, 113) ∈ rv_rf0 by decide)
      have r114 := rf_of hB1 (show (111, 2, 114) ∈ rv_rf0 by decide)
      have own := k_ownerOf (n := n) (S := S1) hp hx.1 x.2
      rcases k_nextH (n := n) hn hB1 hR1 hk hQ hall hI.n hx hf with ⟨w, w1, w2, w3, w4, w5, ew⟩ | ⟨hno, ew⟩
      · have ka := k2_after (n := n) hB1 hv hR1 hk hx.1 hx.2 (w := w) (by omega)
        have hs : okS m (nx m x w) := nx_ok hk hx w2
        have kl := kc_lt hs
        have kM' := kM_le h24
        have kc := k_codeOf (n := n) (by omega) hB1 hp hQ.1 hs.1 hs.2
        have i113 := k_isIn (n := n) (rn_113 hB1) kM' hQ.2.2.1 (x := kcs (vW m) (nx m x w)) (by omega)
        have mem := kin_mem (l := x :: t) (fun s h => hall s (List.mem_append_left _ h)) hs
        have nw : ¬ nI w = (-1 : Int32) := fun z => by
          have z : nI w = iM := z
          rw [z_eqM (by omega)] at z
          exact z
        by_cases ho : nx m x w ∈ x :: t
        · refine ⟨true, S1, ?_, f1, fun _ => DI_hit hI w2 w3 ho, fun _ => rfl⟩
          rw [cX2_goesForEver_29, if_neg c1, if_neg c2, if_neg c3, sub]
          repeat (first | (conv => (lhs; arg 1; simp (disch := first | assumption | omega) only [tk_gI, tk_gL, tk_gR, tk_pI, tk_pL, rv_aI, rv_aL, rv_aR, rv_uI, rv_uL, rv_uB, rv_uZ, pu_ckI, pu_ckL, pu_lnI, pu_lnL, tk_rI, tk_rL, Option.bind_some, Option.map_some, rv_lt, tk_ix, rc_111 hB1, r114, rn_114 hB1, q114])); first | rw [Option.bind_some] | rw [bp_s] | rw [if_true] | rw [if_false] | rw [rv_lt_eq] | rw [if_pos (by omega)] | rw [if_neg (by omega)])
          rw [msk, ew, Option.bind_some, if_neg nw, ka, Option.bind_some]
          have kc' : fnX2_codeOf n S1 111 (nI (sB w (ps m x.1 x.2))) = some (nI (kcs (vW m) (nx m x w))) := kc
          repeat (first | (conv => (lhs; arg 1; simp (disch := first | assumption | omega) only [tk_gI, tk_gL, tk_gR, tk_pI, tk_pL, rv_aI, rv_aL, rv_aR, rv_uI, rv_uL, rv_uB, rv_uZ, pu_ckI, pu_ckL, pu_lnI, pu_lnL, tk_rI, tk_rL, Option.bind_some, Option.map_some, rv_lt, tk_ix, rc_111 hB1, r113, kc', i113])); first | rw [Option.bind_some] | rw [bp_s] | rw [if_true] | rw [if_false] | rw [rv_lt_eq] | rw [if_pos (by omega)] | rw [if_neg (by omega)])
          rw [mem.mpr ho, bI_t, if_neg (by decide)]
          rfl
        · obtain ⟨S2, e2, f2, Q2⟩ := k_enter (n := n) hn hB1 hk hQ (by rw [hlen]; omega) hs
          obtain ⟨b, S3, e3, f3, h3⟩ := ih (nx m x w :: x :: t) cl 0 (step + 1) q S2 (f1.tr f2) (DI_push hI w2 w1 w3 w5 w4 ho) Q2 (Nat.zero_le _) (by show step + 1 + 1 = 2 * cl.length + (t.length + 1 + 1); omega) (by omega) (by omega)
          refine ⟨b, S3, ?_, f3, h3⟩
          have hlen2 : (nx m x w :: x :: t).length = (x :: t).length + 1 := rfl
          rw [hlen2] at e3
          rw [← e3, cX2_goesForEver_29, if_neg c1, if_neg c2, if_neg c3, sub]
          repeat (first | (conv => (lhs; arg 1; simp (disch := first | assumption | omega) only [tk_gI, tk_gL, tk_gR, tk_pI, tk_pL, rv_aI, rv_aL, rv_aR, rv_uI, rv_uL, rv_uB, rv_uZ, pu_ckI, pu_ckL, pu_lnI, pu_lnL, tk_rI, tk_rL, Option.bind_some, Option.map_some, rv_lt, tk_ix, rc_111 hB1, r114, rn_114 hB1, q114])); first | rw [Option.bind_some] | rw [bp_s] | rw [if_true] | rw [if_false] | rw [rv_lt_eq] | rw [if_pos (by omega)] | rw [if_neg (by omega)])
          rw [msk, ew, Option.bind_some, if_neg nw, ka, Option.bind_some]
          have kc' : fnX2_codeOf n S1 111 (nI (sB w (ps m x.1 x.2))) = some (nI (kcs (vW m) (nx m x w))) := kc
          have e2' : fnX2_enter n S1 111 (nI (sB w (ps m x.1 x.2))) (nI (x :: t).length) = some S2 := e2
          repeat (first | (conv => (lhs; arg 1; simp (disch := first | assumption | omega) only [tk_gI, tk_gL, tk_gR, tk_pI, tk_pL, rv_aI, rv_aL, rv_aR, rv_uI, rv_uL, rv_uB, rv_uZ, pu_ckI, pu_ckL, pu_lnI, pu_lnL, tk_rI, tk_rL, Option.bind_some, Option.map_some, rv_lt, tk_ix, rc_111 hB1, r113, kc', i113])); first | rw [Option.bind_some] | rw [bp_s] | rw [if_true] | rw [if_false] | rw [rv_lt_eq] | rw [if_pos (by omega)] | rw [if_neg (by omega)])
          have nm : kin (vW m) (x :: t) (kcs (vW m) (nx m x w)) = false := by
            cases h : kin (vW m) (x :: t) (kcs (vW m) (nx m x w))
            · rfl
            · exact absurd (mem.mp h) ho
          rw [nm, bI_f, if_pos (by rfl)]
          repeat (first | (conv => (lhs; arg 1; simp (disch := first | assumption | omega) only [tk_gI, tk_gL, tk_gR, tk_pI, tk_pL, rv_aI, rv_aL, rv_aR, rv_uI, rv_uL, rv_uB, rv_uZ, pu_ckI, pu_ckL, pu_lnI, pu_lnL, tk_rI, tk_rL, Option.bind_some, Option.map_some, rv_lt, tk_ix, rc_111 hB1, e2'])); first | rw [Option.bind_some] | rw [bp_s] | rw [if_true] | rw [if_false] | rw [rv_lt_eq] | rw [if_pos (by omega)] | rw [if_neg (by omega)])
          rw [z1, nI_add, nI_add, z0]
      · have kM' := kM_le h24
        have kl := kc_lt hx
        have kc := k_codeOf (n := n) (by omega) hB1 hp hQ.1 hx.1 hx.2
        obtain ⟨S2, e2, f2, g2⟩ := k_put0 (n := n) rfl (rn_113 hB1) kM' hQ.2.2.1 (x := kcs (vW m) x) (by omega)
        have own2 := k_ownerOf (n := n) (S := S2) hp hx.1 x.2
        obtain ⟨b, S3, e3, f3, h3⟩ := ih t (x :: cl) (x.1 + 1) (step + 1) q S2 (f1.tr (f2.mono rfl)) (DI_pop hI hno) (DQ_pop hall hI.n hQ f2 g2) (by have := hx.1; omega) (by show step + 1 + 1 = 2 * (cl.length + 1) + t.length; omega) (by omega) (by omega)
        refine ⟨b, S3, ?_, f3, h3⟩
        rw [← e3, cX2_goesForEver_29, if_neg c1, if_neg c2, if_neg c3, sub]
        repeat (first | (conv => (lhs; arg 1; simp (disch := first | assumption | omega) only [tk_gI, tk_gL, tk_gR, tk_pI, tk_pL, rv_aI, rv_aL, rv_aR, rv_uI, rv_uL, rv_uB, rv_uZ, pu_ckI, pu_ckL, pu_lnI, pu_lnL, tk_rI, tk_rL, Option.bind_some, Option.map_some, rv_lt, tk_ix, rc_111 hB1, r114, rn_114 hB1, q114])); first | rw [Option.bind_some] | rw [bp_s] | rw [if_true] | rw [if_false] | rw [rv_lt_eq] | rw [if_pos (by omega)] | rw [if_neg (by omega)])
        rw [msk, ew, Option.bind_some, if_pos (show iM = (-1 : Int32) from rfl)]
        repeat (first | (conv => (lhs; arg 1; simp (disch := first | assumption | omega) only [tk_gI, tk_gL, tk_gR, tk_pI, tk_pL, rv_aI, rv_aL, rv_aR, rv_uI, rv_uL, rv_uB, rv_uZ, pu_ckI, pu_ckL, pu_lnI, pu_lnL, tk_rI, tk_rL, Option.bind_some, Option.map_some, rv_lt, tk_ix, rc_111 hB1, r113, kc])); first | rw [Option.bind_some] | rw [bp_s] | rw [if_true] | rw [if_false] | rw [rv_lt_eq] | rw [if_pos (by omega)] | rw [if_neg (by omega)])
        rw [z0, e2]
        repeat (first | (conv => (lhs; arg 1; simp (disch := first | assumption | omega) only [tk_gI, tk_gL, tk_gR, tk_pI, tk_pL, rv_aI, rv_aL, rv_aR, rv_uI, rv_uL, rv_uB, rv_uZ, pu_ckI, pu_ckL, pu_lnI, pu_lnL, tk_rI, tk_rL, Option.bind_some, Option.map_some, rv_lt, tk_ix, own2])); first | rw [Option.bind_some] | rw [bp_s] | rw [if_true] | rw [if_false] | rw [rv_lt_eq] | rw [if_pos (by omega)] | rw [if_neg (by omega)])
        rw [z1, nI_add, nI_add, hlen, z_m1, z_dec]
theorem k_goesForEver (hn : 520000 ≤ n) (hB : rv_B S) (hR : CR S 67 m) (hk : okm m) {c : Nat} (hc : c < vC m) : ∃ b S', fnX2_goesForEver n S 111 67 (nI c) = some (bI b, S') ∧ rvf KE S S' ∧ (b = true ↔ LONG m (ow m c, rl m c)) := by
  obtain ⟨hp, hcc, -⟩ := id hk
  have h24 := hp.1
  have hv : vb 67 := Or.inl rfl
  have ho := (hcc.2.2 c hc).2.2.1
  have hl := hcc.l hc
  have ln : (rl m c).length ≤ vN m := by rw [rl_len (by have := (hcc.2.2 c hc).2.2.2.1; have := hcc.2.1; omega)]; exact (hcc.2.2 c hc).2.2.2.1
  obtain ⟨s0, es0⟩ : ∃ s0 : St, s0 = (ow m c, rl m c) := ⟨_, rfl⟩
  have hs0 : okS m s0 := by rw [es0]; exact ⟨ho, hl⟩
  have hl0 : s0.2.length ≤ vN m := by rw [es0]; exact ln
  obtain ⟨S1, e1, f1, g3, g1, g2⟩ := k_begin (n := n) (by omega) hB hv hR hk
  have hB1 := f1.B hB
  have hR1 := CR_K hR f1 rfl
  have hVS1 := VS_of hB1 hv
  have sn := k_stateNow (n := n) hB1 hv hR1 hk hc
  have Q1 : DQ S1 m [] [] := ⟨g3, g1, g2, fun j s hj => by simp at hj⟩
  obtain ⟨S2, e2, f2, Q2⟩ := k_enter (n := n) (by omega) hB1 hk Q1 (by decide) hs0
  have hB2 := f2.B hB1
  have f12 : rvf KE S S2 := (f1.mono rfl).tr (f2.mono rfl)
  obtain ⟨b, S3, e3, f3, h3⟩ := k_deep (n := n) (by omega) hB2 (CR_K hR f12 rfl) hk hs0 hl0 511290 [s0] [] 0 0 n S2 (rvf.rf _ _) DI_0 Q2 (Nat.zero_le _) rfl (by omega) (by omega)
  refine ⟨b, S3, ?_, f12.tr (f3.mono rfl), by rw [← es0]; exact h3⟩
  have e2' : fnX2_enter n S1 111 (nI (sB (ow m c) (rl m c))) (nI 0) = some S2 := by
    have : sB s0.1 s0.2 = sB (ow m c) (rl m c) := by rw [es0]
    rw [← this]; exact e2
  have e3' : cX2_goesForEver_29 n n S2 111 67 (nI 1) (nI 0) (nI 0) = some (bI b, S3) := e3
  rw [fnX2_goesForEver]
  repeat (first | (conv => (lhs; arg 1; simp (disch := first | assumption | omega) only [tk_gI, tk_gL, tk_gR, tk_pI, tk_pL, rv_aI, rv_aL, rv_aR, rv_uI, rv_uL, rv_uB, rv_uZ, pu_ckI, pu_ckL, pu_lnI, pu_lnL, tk_rI, tk_rL, Option.bind_some, Option.map_some, rv_lt, tk_ix, rc_111 hB, e1, hVS1, sn, rc_111 hB1])); first | rw [Option.bind_some] | rw [bp_s] | rw [if_true] | rw [if_false] | rw [rv_lt_eq] | rw [if_pos (by omega)] | rw [if_neg (by omega)])
  rw [z0, e2', Option.bind_some, z1, e3']
end
