/-! THE LAW: one op, both sides -/
section
variable {n L p i : Nat} {xs : Nat → Int32} {K : Nat → Nat → Nat → Int32 → rvS → Option (Int32 × rvS)} {S : rvS}
/-- an op of the law goes on -/
def Go (i p : Nat) (K : Nat → Nat → Nat → Int32 → rvS → Option (Int32 × rvS)) (x : Option (Int32 × rvS)) : Prop := ∃ S', Iv (i + 1) S' ∧ x = K 64 189 217 (nI (p + 6)) S'
theorem wok_of {w : Nat} (h : w < 2000) : decide (0 ≤ (nI w).toInt ∧ (nI w).toInt < 100000 ∧ 0 ≤ (nI (6 * w)).toInt ∧ (nI (6 * w)).toInt < 1000000) = true := by
  have e1 : (nI w).toInt = (w : Int) := nI_toInt (by omega)
  have e2 : (nI (6 * w)).toInt = ((6 * w : Nat) : Int) := nI_toInt (by omega)
  rw [e1, e2]
  exact decide_eq_true (by omega)
theorem st_feed (hn : 600000 ≤ n) (hL : L ≤ 3072) (hp : p + 6 ≤ L) (hi : i ≤ 1000) (h : Iv i S) : Go i p K (cL_law_244 n L xs K S 64 189 217 (nI p)) := by
  obtain ⟨⟨m, wd, o, st, hW⟩, hP, hG, hH, hO, hHV, hD, ⟨Lt, ht⟩, hf, hs, hw⟩ := id h
  obtain ⟨r, S1, S', L', e1, e2, hB1, hB2, fr, ht', u1, u2⟩ := ro_feed (n := n) (by omega) (xs (p + 1)) (xs (p + 2)) (xs (p + 3)) (xs (p + 4)) (xs (p + 5)) hW.1.1 ht
  have hB := hW.1.1
  obtain ⟨v1, v2, v3⟩ := h.vl
  have e6 : nI p + (6 : Int32) = nI (p + 6) := nI_add p 6
  have i1 : rv_ix L (nI p + (1 : Int32)) = some (p + 1) := ixp (k := 1) (by omega) hL
  have i2 : rv_ix L (nI p + (2 : Int32)) = some (p + 2) := ixp (k := 2) (by omega) hL
  have i3 : rv_ix L (nI p + (3 : Int32)) = some (p + 3) := ixp (k := 3) (by omega) hL
  have i4 : rv_ix L (nI p + (4 : Int32)) = some (p + 4) := ixp (k := 4) (by omega) hL
  have i5 : rv_ix L (nI p + (5 : Int32)) = some (p + 5) := ixp (k := 5) (by omega) hL
  refine ⟨S', h.tape fr ht' u1 u2, ?_⟩
  simp only [cL_law_244, v1, v2, v3, i1, i2, i3, i4, i5, Option.bind_some, rc_64 hB, rc_189 hB, rc_189 hB1, e1, e2, bp_s, eq_self, if_true, rv_lt_eq, e6]
theorem st_end (hn : 600000 ≤ n) (hL : L ≤ 3072) (hp : p + 6 ≤ L) (hi : i ≤ 1000) (h : Iv i S) : Go i p K (cL_law_317 n L xs K S 64 189 217 (nI p)) := by
  obtain ⟨⟨m, wd, o, st, hW⟩, hP, hG, hH, hO, hHV, hD, ⟨Lt, ht⟩, hf, hs, hw⟩ := id h
  obtain ⟨r, S1, S', L', e1, e2, hB1, hB2, fr, ht', u1, u2⟩ := ro_end (n := n) (xs (p + 1)) hW.1.1 ht
  have hB := hW.1.1
  obtain ⟨v1, v2, v3⟩ := h.vl
  have e6 : nI p + (6 : Int32) = nI (p + 6) := nI_add p 6
  have i1 : rv_ix L (nI p + (1 : Int32)) = some (p + 1) := ixp (k := 1) (by omega) hL
  refine ⟨S', h.tape fr ht' u1 u2, ?_⟩
  simp only [cL_law_317, v1, v2, v3, i1, Option.bind_some, rc_64 hB, rc_189 hB, rc_189 hB1, e1, e2, bp_s, eq_self, if_true, rv_lt_eq, e6]
theorem st_valley (hn : 600000 ≤ n) (hL : L ≤ 3072) (hp : p + 6 ≤ L) (hi : i ≤ 1000) (h : Iv i S) : Go i p K (cL_law_342 n L xs K S 64 189 217 (nI p)) := by
  obtain ⟨⟨m, wd, o, st, hW⟩, hP, hG, hH, hO, hHV, hD, ⟨Lt, ht⟩, hf, hs, hw⟩ := id h
  obtain ⟨r, S1, S', m', wd', o', st', a, fk, e1, e2, w', t', x1, x2, a1, a2, sh, q⟩ := op_valley (n := n) (by omega) hW ht (by have := h.len.2; omega)
  have hB := hW.1.1
  obtain ⟨v1, v2, v3⟩ := h.vl
  have e6 : nI p + (6 : Int32) = nI (p + 6) := nI_add p 6
  have z : rv_same S1 S' := (metX13_valley n S1 189 _ _ e2).sh rfl
  have c1 : rv_ck S1 11 189 = some () := ckS z.1.symm (rc_189 w'.1.1)
  have f := q.f
  obtain ⟨kk, hk, hs⟩ := hs
  have e1a : ∀ x, (!DVL.elem x && (decide (x < 218) || decide (2000 ≤ x))) = true → (DVL ++ [a]).elem x = false := fun x hx => oneNo (D := DVL) a1 a2 hx
  have hPv : PK (S.1, S'.2) := hP.f f (allNo (D := DVL) a1 a2 (by decide +kernel))
  have hGv : GW (S.1, S'.2) := hG.f f (e1a _ rfl) (e1a _ rfl) (e1a _ rfl) (e1a _ rfl)
  have hHx : HD (S.1, S'.2) := hH.f f (e1a _ rfl) (e1a _ rfl) (e1a _ rfl) (e1a _ rfl)
  have hOv : OV (S.1, S'.2) := hO.f f (e1a _ rfl) (e1a _ rfl) (e1a _ rfl) (e1a _ rfl)
  have hVv : HV (S.1, S'.2) := hHV.f f (e1a _ rfl) (e1a _ rfl) (e1a _ rfl) (e1a _ rfl)
  have hDv : DW (S.1, S'.2) := hD.f f (e1a _ rfl) (e1a _ rfl) (e1a _ rfl)
  have hwv := w_f hw f (e1a _ rfl)
  refine ⟨S', ⟨⟨m', wd', o', st', w'⟩, hPv, hGv, hHx, hOv, hVv, hDv, ⟨0, t'⟩, x1.trans x2.symm, ⟨kk + 1, by omega, ?_⟩, hwv⟩, ?_⟩
  · rw [sh, hs, List.append_assoc, List.replicate_succ']
  · simp only [cL_law_342, v1, v2, v3, Option.bind_some, rc_64 hB, rc_189 hB, c1, e1, e2, bp_s, eq_self, if_true, rv_lt_eq, e6]
theorem st_fault (hn : 600000 ≤ n) (hL : L ≤ 3072) (hp : p + 6 ≤ L) (hi : i ≤ 1000) (h : Iv i S) : Go i p K (cL_law_355 n L xs K S 64 189 217 (nI p)) := by
  obtain ⟨⟨m, wd, o, st, hW⟩, hP, hG, hH, hO, hHV, hD, ⟨Lt, ht⟩, hf, hs, hw⟩ := id h
  have hB := hW.1.1
  obtain ⟨v1, v2, v3⟩ := h.vl
  have e6 : nI p + (6 : Int32) = nI (p + 6) := nI_add p 6
  have f := rvf.sI S 189 0 0
  refine ⟨rv_sI S 189 0 0, h.fr f ⟨m, wd, o, st, hW.f f rfl⟩ (by decide +kernel) (by decide +kernel), ?_⟩
  have e1 := rv_fault_c hB n
  have e2 := rv_fault_m hB n
  rw [hf] at e1
  simp only [cL_law_355, v1, v2, v3, Option.bind_some, rc_64 hB, rc_189 hB, e1, e2, bp_s, eq_self, if_true, rv_lt_eq, e6]
theorem st_who (hn : 600000 ≤ n) (hL : L ≤ 3072) (hp : p + 6 ≤ L) (hi : i ≤ 1000) (h : Iv i S) : Go i p K (cL_law_368 n L xs K S 64 189 217 (nI p)) := by
  obtain ⟨⟨m, wd, o, st, hW⟩, hP, hG, hH, hO, hHV, hD, ⟨Lt, ht⟩, hf, hs, hw⟩ := id h
  have hB := hW.1.1
  obtain ⟨v1, v2, v3⟩ := h.vl
  have e6 : nI p + (6 : Int32) = nI (p + 6) := nI_add p 6
  have i1 : rv_ix L (nI p + (1 : Int32)) = some (p + 1) := ixp (k := 1) (by omega) hL
  have i2 : rv_ix L (nI p + (2 : Int32)) = some (p + 2) := ixp (k := 2) (by omega) hL
  by_cases hT : ftX12_who n S 64 (xs (p + 1)) (xs (p + 2)) = some ()
  · obtain ⟨w, w1, w2, w3⟩ := hw
    obtain ⟨S1, eS1⟩ : ∃ S1, S1 = rv_wst S := ⟨_, rfl⟩
    have f1 : rvf [60] S S1 := by
      rw [eS1]
      exact (rvf.sIr S _ _ rfl).tr (rvf.sIr _ _ _ rfl)
    have hW1 := hW.f f1 rfl
    have wok : rv_wok S = true := by
      unfold rv_wok
      rw [w2, w3]
      exact wok_of (by omega)
    have eL : fnL_who n S 64 (xs (p + 1)) (xs (p + 2)) 217 = some (1, S1) := by
      rw [fnL_who, rc_64 hB, Option.bind_some, if_pos hT, if_pos wok, eS1]
    have c1 := ckS f1.1 (rc_189 hB)
    rcases op_who (n := n) (by omega) hW.1 hW1.1 (xs (p + 1)) (xs (p + 2)) with ⟨-, r, S', e2, q, t0⟩ | ⟨z, -⟩
    · have c2 := rc_189 q.1.1
      have et : fnX13_thrown n S' 189 = some (1 : Int32) := by
        rw [fnX13_thrown, tk_gI, c2, Option.map_some, Option.bind_some, t0]
        rfl
      have g60 : S1.2.1 60 0 = nI (w + 1) ∧ S1.2.1 60 1 = nI (6 * (w + 1)) := by
        rw [eS1]
        unfold rv_wst
        refine ⟨?_, ?_⟩
        · rw [rv_sI_k _ _ (by decide), rv_sI_eq, w2]
          exact nI_add w 1
        · rw [rv_sI_eq, w3]
          exact nI_add (6 * w) 6
      have fq : rvf (60 :: DV) S S' := (f1.mono (by decide +kernel)).tr (q.2.1.mono (by decide +kernel))
      refine ⟨S', ⟨⟨m, wd, o, st, hW1.qd (D := DV) q rfl (by decide +kernel)⟩, hP.f fq (by decide +kernel), hG.f fq rfl rfl rfl rfl, hH.f fq rfl rfl rfl rfl, hO.f fq rfl rfl rfl rfl, hHV.f fq rfl rfl rfl rfl, hD.f fq rfl rfl rfl, ⟨Lt, tp_f ht fq rfl rfl rfl rfl⟩, fl_f hf fq rfl rfl, sh_f hs fq.1, ⟨w + 1, by omega, (q.2.1.row (a := 60) rfl rfl 0).trans g60.1, (q.2.1.row (a := 60) rfl rfl 1).trans g60.2⟩⟩, ?_⟩
      simp only [cL_law_368, v1, v2, v3, i1, i2, Option.bind_some, rc_64 hB, rc_189 hB, c1, c2, eL, e2, et, bp_s, eq_self, if_true, rv_lt_eq, e6]
      rw [if_neg (by decide)]
    · exact absurd hT z
  · rcases op_who (n := n) (by omega) hW.1 hW.1 (xs (p + 1)) (xs (p + 2)) with ⟨z, -⟩ | ⟨-, r, -, ec, -⟩
    · exact absurd z hT
    · obtain ⟨S1, eS1⟩ : ∃ S1, S1 = rv_sL S 217 0 r.toInt64 := ⟨_, rfl⟩
      have f1 : rvf [217] S S1 := by
        rw [eS1]
        exact rvf.sLr S _ _ rfl
      have hW1 := hW.f f1 rfl
      have uL : rv_uL S 217 0 r.toInt64 = some S1 := by
        unfold rv_uL
        rw [rn_217 hB, Option.bind_some, show rv_ix 1 (0 : Int32) = some 0 from tk_ix (n := 1) (j := 0) (by decide) (by decide), Option.bind_some, eS1]
      have eL : fnL_who n S 64 (xs (p + 1)) (xs (p + 2)) 217 = some (0, S1) := by
        rw [fnL_who, rc_64 hB, Option.bind_some, if_neg hT, ec, Option.bind_some, uL, Option.bind_some]
      have c1 := ckS f1.1 (rc_189 hB)
      rcases op_who (n := n) (by omega) hW.1 hW1.1 (xs (p + 1)) (xs (p + 2)) with ⟨z, -⟩ | ⟨-, r2, S', ec2, e2, q, t0⟩
      · exact absurd z hT
      · have er : r2 = r := by
          rw [ec] at ec2
          exact (Option.some.inj ec2).symm
        rw [er] at e2
        have c2 := rc_189 q.1.1
        have et : fnX13_thrown n S' 189 = some (0 : Int32) := by
          rw [fnX13_thrown, tk_gI, c2, Option.map_some, Option.bind_some, t0]
          rfl
        have l217 : S'.2.2.1 217 0 = r.toInt64 := (q.2.1.rowL (a := 217) rfl rfl 0).trans (by rw [eS1]; exact rv_sL_eq _ _ _ _)
        have ea : rv_aL S' 217 (0 : Int32) = some r.toInt64 := by
          unfold rv_aL
          rw [rn_217 q.1.1, Option.bind_some, show rv_ix 1 (0 : Int32) = some 0 from tk_ix (n := 1) (j := 0) (by decide) (by decide), Option.bind_some, l217]
        have el : lg_cmp r.toInt64 r.toInt64 = 0 := (lg_cmp_eq _ _).mpr rfl
        have fq : rvf (217 :: DV) S S' := (f1.mono (by decide +kernel)).tr (q.2.1.mono (by decide +kernel))
        refine ⟨S', h.fr fq ⟨m, wd, o, st, hW1.qd (D := DV) q rfl (by decide +kernel)⟩ (by decide +kernel) (by decide +kernel), ?_⟩
        simp only [cL_law_368, v1, v2, v3, i1, i2, Option.bind_some, rc_64 hB, rc_189 hB, c1, c2, eL, e2, et, ea, el, bp_s, eq_self, if_true, rv_lt_eq, e6]
theorem st_coin (hn : 600000 ≤ n) (hL : L ≤ 3072) (hp : p + 6 ≤ L) (hi : i ≤ 1000) (h : Iv i S) : Go i p K (cL_law_436 n L xs K S 64 189 217 (nI p)) := by
  obtain ⟨⟨m, wd, o, st, hW⟩, hP, hG, hH, hO, hHV, hD, ⟨Lt, ht⟩, hf, hs, hw⟩ := id h
  have hB := hW.1.1
  obtain ⟨v1, v2, v3⟩ := h.vl
  have e6 : nI p + (6 : Int32) = nI (p + 6) := nI_add p 6
  have i1 : rv_ix L (nI p + (1 : Int32)) = some (p + 1) := ixp (k := 1) (by omega) hL
  have i2 : rv_ix L (nI p + (2 : Int32)) = some (p + 2) := ixp (k := 2) (by omega) hL
  by_cases hT : ftX12_coin n S 64 (xs (p + 1)) (xs (p + 2)) = some ()
  · obtain ⟨w, w1, w2, w3⟩ := hw
    obtain ⟨S1, eS1⟩ : ∃ S1, S1 = rv_wst S := ⟨_, rfl⟩
    have f1 : rvf [60] S S1 := by
      rw [eS1]
      exact (rvf.sIr S _ _ rfl).tr (rvf.sIr _ _ _ rfl)
    have hW1 := hW.f f1 rfl
    have wok : rv_wok S = true := by
      unfold rv_wok
      rw [w2, w3]
      exact wok_of (by omega)
    have eL : fnL_coin n S 64 (xs (p + 1)) (xs (p + 2)) 217 = some (1, S1) := by
      rw [fnL_coin, rc_64 hB, Option.bind_some, if_pos hT, if_pos wok, eS1]
    have c1 := ckS f1.1 (rc_189 hB)
    rcases op_coin (n := n) (by omega) hW.1 hW1.1 (xs (p + 1)) (xs (p + 2)) with ⟨-, r, S', e2, q, t0⟩ | ⟨z, -⟩
    · have c2 := rc_189 q.1.1
      have et : fnX13_thrown n S' 189 = some (1 : Int32) := by
        rw [fnX13_thrown, tk_gI, c2, Option.map_some, Option.bind_some, t0]
        rfl
      have g60 : S1.2.1 60 0 = nI (w + 1) ∧ S1.2.1 60 1 = nI (6 * (w + 1)) := by
        rw [eS1]
        unfold rv_wst
        refine ⟨?_, ?_⟩
        · rw [rv_sI_k _ _ (by decide), rv_sI_eq, w2]
          exact nI_add w 1
        · rw [rv_sI_eq, w3]
          exact nI_add (6 * w) 6
      have fq : rvf (60 :: DV) S S' := (f1.mono (by decide +kernel)).tr (q.2.1.mono (by decide +kernel))
      refine ⟨S', ⟨⟨m, wd, o, st, hW1.qd (D := DV) q rfl (by decide +kernel)⟩, hP.f fq (by decide +kernel), hG.f fq rfl rfl rfl rfl, hH.f fq rfl rfl rfl rfl, hO.f fq rfl rfl rfl rfl, hHV.f fq rfl rfl rfl rfl, hD.f fq rfl rfl rfl, ⟨Lt, tp_f ht fq rfl rfl rfl rfl⟩, fl_f hf fq rfl rfl, sh_f hs fq.1, ⟨w + 1, by omega, (q.2.1.row (a := 60) rfl rfl 0).trans g60.1, (q.2.1.row (a := 60) rfl rfl 1).trans g60.2⟩⟩, ?_⟩
      simp only [cL_law_436, v1, v2, v3, i1, i2, Option.bind_some, rc_64 hB, rc_189 hB, c1, c2, eL, e2, et, bp_s, eq_self, if_true, rv_lt_eq, e6]
      rw [if_neg (by decide)]
    · exact absurd hT z
  · rcases op_coin (n := n) (by omega) hW.1 hW.1 (xs (p + 1)) (xs (p + 2)) with ⟨z, -⟩ | ⟨-, r, -, ec, -⟩
    · exact absurd z hT
    · obtain ⟨S1, eS1⟩ : ∃ S1, S1 = rv_sL S 217 0 r.toInt64 := ⟨_, rfl⟩
      have f1 : rvf [217] S S1 := by
        rw [eS1]
        exact rvf.sLr S _ _ rfl
      have hW1 := hW.f f1 rfl
      have uL : rv_uL S 217 0 r.toInt64 = some S1 := by
        unfold rv_uL
        rw [rn_217 hB, Option.bind_some, show rv_ix 1 (0 : Int32) = some 0 from tk_ix (n := 1) (j := 0) (by decide) (by decide), Option.bind_some, eS1]
      have eL : fnL_coin n S 64 (xs (p + 1)) (xs (p + 2)) 217 = some (0, S1) := by
        rw [fnL_coin, rc_64 hB, Option.bind_some, if_neg hT, ec, Option.bind_some, uL, Option.bind_some]
      have c1 := ckS f1.1 (rc_189 hB)
      rcases op_coin (n := n) (by omega) hW.1 hW1.1 (xs (p + 1)) (xs (p + 2)) with ⟨z, -⟩ | ⟨-, r2, S', ec2, e2, q, t0⟩
      · exact absurd z hT
      · have er : r2 = r := by
          rw [ec] at ec2
          exact (Option.some.inj ec2).symm
        rw [er] at e2
        have c2 := rc_189 q.1.1
        have et : fnX13_thrown n S' 189 = some (0 : Int32) := by
          rw [fnX13_thrown, tk_gI, c2, Option.map_some, Option.bind_some, t0]
          rfl
        have l217 : S'.2.2.1 217 0 = r.toInt64 := (q.2.1.rowL (a := 217) rfl rfl 0).trans (by rw [eS1]; exact rv_sL_eq _ _ _ _)
        have ea : rv_aL S' 217 (0 : Int32) = some r.toInt64 := by
          unfold rv_aL
          rw [rn_217 q.1.1, Option.bind_some, show rv_ix 1 (0 : Int32) = some 0 from tk_ix (n := 1) (j := 0) (by decide) (by decide), Option.bind_some, l217]
        have el : lg_cmp r.toInt64 r.toInt64 = 0 := (lg_cmp_eq _ _).mpr rfl
        have fq : rvf (217 :: DV) S S' := (f1.mono (by decide +kernel)).tr (q.2.1.mono (by decide +kernel))
        refine ⟨S', h.fr fq ⟨m, wd, o, st, hW1.qd (D := DV) q rfl (by decide +kernel)⟩ (by decide +kernel) (by decide +kernel), ?_⟩
        simp only [cL_law_436, v1, v2, v3, i1, i2, Option.bind_some, rc_64 hB, rc_189 hB, c1, c2, eL, e2, et, ea, el, bp_s, eq_self, if_true, rv_lt_eq, e6]
theorem st_rim (hn : 600000 ≤ n) (hL : L ≤ 3072) (hp : p + 6 ≤ L) (hi : i ≤ 1000) (h : Iv i S) : Go i p K (cL_law_504 n L xs K S 64 189 217 (nI p)) := by
  obtain ⟨⟨m, wd, o, st, hW⟩, hP, hG, hH, hO, hHV, hD, ⟨Lt, ht⟩, hf, hs, hw⟩ := id h
  obtain ⟨r, S', e1, e2, q⟩ := op_rim (n := n) (by omega) hW.1 (xs (p + 1)) (xs (p + 2))
  have hB := hW.1.1
  obtain ⟨v1, v2, v3⟩ := h.vl
  have e6 : nI p + (6 : Int32) = nI (p + 6) := nI_add p 6
  have i1 : rv_ix L (nI p + (1 : Int32)) = some (p + 1) := ixp (k := 1) (by omega) hL
  have i2 : rv_ix L (nI p + (2 : Int32)) = some (p + 2) := ixp (k := 2) (by omega) hL
  refine ⟨S', h.q hW q rfl, ?_⟩
  simp only [cL_law_504, v1, v2, v3, i1, i2, Option.bind_some, rc_64 hB, rc_189 hB, e1, e2, bp_s, eq_self, if_true, rv_lt_eq, e6]
theorem st_near (hn : 600000 ≤ n) (hL : L ≤ 3072) (hp : p + 6 ≤ L) (hi : i ≤ 1000) (h : Iv i S) : Go i p K (cL_law_541 n L xs K S 64 189 217 (nI p)) := by
  obtain ⟨⟨m, wd, o, st, hW⟩, hP, hG, hH, hO, hHV, hD, ⟨Lt, ht⟩, hf, hs, hw⟩ := id h
  obtain ⟨r, S', e1, e2, q⟩ := op_near (n := n) (by omega) hW.1 (xs (p + 1)) (xs (p + 2))
  have hB := hW.1.1
  obtain ⟨v1, v2, v3⟩ := h.vl
  have e6 : nI p + (6 : Int32) = nI (p + 6) := nI_add p 6
  have i1 : rv_ix L (nI p + (1 : Int32)) = some (p + 1) := ixp (k := 1) (by omega) hL
  have i2 : rv_ix L (nI p + (2 : Int32)) = some (p + 2) := ixp (k := 2) (by omega) hL
  refine ⟨S', h.q hW q rfl, ?_⟩
  simp only [cL_law_541, v1, v2, v3, i1, i2, Option.bind_some, rc_64 hB, rc_189 hB, e1, e2, bp_s, eq_self, if_true, rv_lt_eq, e6]
theorem st_road (hn : 600000 ≤ n) (hL : L ≤ 3072) (hp : p + 6 ≤ L) (hi : i ≤ 1000) (h : Iv i S) : Go i p K (cL_law_578 n L xs K S 64 189 217 (nI p)) := by
  obtain ⟨⟨m, wd, o, st, hW⟩, hP, hG, hH, hO, hHV, hD, ⟨Lt, ht⟩, hf, hs, hw⟩ := id h
  obtain ⟨r, S1, S', m', e1, e2, q, q6⟩ := op_road6 (n := n) (by omega) hW.1 (xs (p + 1)) (xs (p + 2))
  have hB := hW.1.1
  obtain ⟨v1, v2, v3⟩ := h.vl
  have e6 : nI p + (6 : Int32) = nI (p + 6) := nI_add p 6
  have i1 : rv_ix L (nI p + (1 : Int32)) = some (p + 1) := ixp (k := 1) (by omega) hL
  have i2 : rv_ix L (nI p + (2 : Int32)) = some (p + 2) := ixp (k := 2) (by omega) hL
  have z : rv_same S S1 := (metX12_road n S 64 (xs (p + 1)) (xs (p + 2)) _ _ e1).sh rfl
  have c1 := ckS z.1 (rc_189 hB)
  refine ⟨S', h.q hW q q6, ?_⟩
  simp only [cL_law_578, v1, v2, v3, i1, i2, Option.bind_some, rc_64 hB, rc_189 hB, c1, e1, e2, bp_s, eq_self, if_true, rv_lt_eq, e6]
theorem st_why (hn : 600000 ≤ n) (hL : L ≤ 3072) (hp : p + 6 ≤ L) (hi : i ≤ 1000) (h : Iv i S) : Go i p K (cL_law_615 n L xs K S 64 189 217 (nI p)) := by
  obtain ⟨⟨m, wd, o, st, hW⟩, hP, hG, hH, hO, hHV, hD, ⟨Lt, ht⟩, hf, hs, hw⟩ := id h
  obtain ⟨r, S', e1, e2, q⟩ := op_why (n := n) (by omega) hW.1 (xs (p + 1)) (xs (p + 2))
  have hB := hW.1.1
  obtain ⟨v1, v2, v3⟩ := h.vl
  have e6 : nI p + (6 : Int32) = nI (p + 6) := nI_add p 6
  have i1 : rv_ix L (nI p + (1 : Int32)) = some (p + 1) := ixp (k := 1) (by omega) hL
  have i2 : rv_ix L (nI p + (2 : Int32)) = some (p + 2) := ixp (k := 2) (by omega) hL
  refine ⟨S', h.q hW q rfl, ?_⟩
  simp only [cL_law_615, v1, v2, v3, i1, i2, Option.bind_some, rc_64 hB, rc_189 hB, e1, e2, bp_s, eq_self, if_true, rv_lt_eq, e6]
theorem st_pay (hn : 600000 ≤ n) (hL : L ≤ 3072) (hp : p + 6 ≤ L) (hi : i ≤ 1000) (h : Iv i S) : Go i p K (cL_law_652 n L xs K S 64 189 217 (nI p)) := by
  obtain ⟨⟨m, wd, o, st, hW⟩, hP, hG, hH, hO, hHV, hD, ⟨Lt, ht⟩, hf, hs, hw⟩ := id h
  obtain ⟨r, S1, S', m', e1, e2, q, q6⟩ := op_pay6 (n := n) (by omega) hW.1 (xs (p + 1)) (xs (p + 2))
  have hB := hW.1.1
  obtain ⟨v1, v2, v3⟩ := h.vl
  have e6 : nI p + (6 : Int32) = nI (p + 6) := nI_add p 6
  have i1 : rv_ix L (nI p + (1 : Int32)) = some (p + 1) := ixp (k := 1) (by omega) hL
  have i2 : rv_ix L (nI p + (2 : Int32)) = some (p + 2) := ixp (k := 2) (by omega) hL
  have z : rv_same S S1 := (metX12_pay n S 64 (xs (p + 1)) (xs (p + 2)) _ _ e1).sh rfl
  have c1 := ckS z.1 (rc_189 hB)
  refine ⟨S', h.q hW q q6, ?_⟩
  simp only [cL_law_652, v1, v2, v3, i1, i2, Option.bind_some, rc_64 hB, rc_189 hB, c1, e1, e2, bp_s, eq_self, if_true, rv_lt_eq, e6]
theorem st_whom (hn : 600000 ≤ n) (hL : L ≤ 3072) (hp : p + 6 ≤ L) (hi : i ≤ 1000) (h : Iv i S) : Go i p K (cL_law_689 n L xs K S 64 189 217 (nI p)) := by
  obtain ⟨⟨m, wd, o, st, hW⟩, hP, hG, hH, hO, hHV, hD, ⟨Lt, ht⟩, hf, hs, hw⟩ := id h
  obtain ⟨r, S', e1, e2, q⟩ := op_whom (n := n) (by omega) hW.1 (xs (p + 1))
  have hB := hW.1.1
  obtain ⟨v1, v2, v3⟩ := h.vl
  have e6 : nI p + (6 : Int32) = nI (p + 6) := nI_add p 6
  have i1 : rv_ix L (nI p + (1 : Int32)) = some (p + 1) := ixp (k := 1) (by omega) hL
  refine ⟨S', h.q hW q rfl, ?_⟩
  simp only [cL_law_689, v1, v2, v3, i1, Option.bind_some, rc_64 hB, rc_189 hB, e1, e2, bp_s, eq_self, if_true, rv_lt_eq, e6]
theorem st_exact (hn : 600000 ≤ n) (hL : L ≤ 3072) (hp : p + 6 ≤ L) (hi : i ≤ 1000) (h : Iv i S) : Go i p K (cL_law_714 n L xs K S 64 189 217 (nI p)) := by
  obtain ⟨⟨m, wd, o, st, hW⟩, hP, hG, hH, hO, hHV, hD, ⟨Lt, ht⟩, hf, hs, hw⟩ := id h
  obtain ⟨r, S1, S', e1, e2, q, g⟩ := op_exactW (n := n) (by omega) hW.1 hG (xs (p + 1)) (xs (p + 2)) (xs (p + 3))
  have hB := hW.1.1
  obtain ⟨v1, v2, v3⟩ := h.vl
  have e6 : nI p + (6 : Int32) = nI (p + 6) := nI_add p 6
  have i1 : rv_ix L (nI p + (1 : Int32)) = some (p + 1) := ixp (k := 1) (by omega) hL
  have i2 : rv_ix L (nI p + (2 : Int32)) = some (p + 2) := ixp (k := 2) (by omega) hL
  have i3 : rv_ix L (nI p + (3 : Int32)) = some (p + 3) := ixp (k := 3) (by omega) hL
  have z : rv_same S S1 := (metX12_exact n S 64 (xs (p + 1)) (xs (p + 2)) (xs (p + 3)) _ _ e1).sh rfl
  have c1 := ckS z.1 (rc_189 hB)
  refine ⟨S', ⟨⟨m, wd, o, st, hW.qd q rfl (by decide +kernel)⟩, hP.f q.2.1 (by decide +kernel), g, hH.f q.2.1 rfl rfl rfl rfl, hO.f q.2.1 rfl rfl rfl rfl, hHV.f q.2.1 rfl rfl rfl rfl, hD.f q.2.1 rfl rfl rfl, ⟨Lt, tp_f ht q.2.1 rfl rfl rfl rfl⟩, fl_f hf q.2.1 rfl rfl, sh_f hs q.2.1.1, w_f hw q.2.1 rfl⟩, ?_⟩
  simp only [cL_law_714, v1, v2, v3, i1, i2, i3, Option.bind_some, rc_64 hB, rc_189 hB, c1, e1, e2, bp_s, eq_self, if_true, rv_lt_eq, e6]
theorem st_given (hn : 600000 ≤ n) (hL : L ≤ 3072) (hp : p + 6 ≤ L) (hi : i ≤ 1000) (h : Iv i S) : Go i p K (cL_law_763 n L xs K S 64 189 217 (nI p)) := by
  obtain ⟨⟨m, wd, o, st, hW⟩, hP, hG, hH, hO, hHV, hD, ⟨Lt, ht⟩, hf, hs, hw⟩ := id h
  obtain ⟨r, S', e1, e2, q⟩ := op_givenW (n := n) (by omega) hW.1 hG (xs (p + 1))
  have hB := hW.1.1
  obtain ⟨v1, v2, v3⟩ := h.vl
  have e6 : nI p + (6 : Int32) = nI (p + 6) := nI_add p 6
  have i1 : rv_ix L (nI p + (1 : Int32)) = some (p + 1) := ixp (k := 1) (by omega) hL
  refine ⟨S', h.q hW q rfl, ?_⟩
  simp only [cL_law_763, v1, v2, v3, i1, Option.bind_some, rc_64 hB, rc_189 hB, e1, e2, bp_s, eq_self, if_true, rv_lt_eq, e6]
theorem st_settle (hn : 600000 ≤ n) (hL : L ≤ 3072) (hp : p + 6 ≤ L) (hi : i ≤ 1000) (h : Iv i S) : Go i p K (cL_law_788 n L xs K S 64 189 217 (nI p)) := by
  obtain ⟨⟨m, wd, o, st, hW⟩, hP, hG, hH, hO, hHV, hD, ⟨Lt, ht⟩, hf, hs, hw⟩ := id h
  obtain ⟨r, S1, S', m', e1, e2, q, q6, g⟩ := op_settleW (n := n) (by omega) hW.1 hG (xs (p + 1)) (xs (p + 2)) (xs (p + 3))
  have hB := hW.1.1
  obtain ⟨v1, v2, v3⟩ := h.vl
  have e6 : nI p + (6 : Int32) = nI (p + 6) := nI_add p 6
  have i1 : rv_ix L (nI p + (1 : Int32)) = some (p + 1) := ixp (k := 1) (by omega) hL
  have i2 : rv_ix L (nI p + (2 : Int32)) = some (p + 2) := ixp (k := 2) (by omega) hL
  have i3 : rv_ix L (nI p + (3 : Int32)) = some (p + 3) := ixp (k := 3) (by omega) hL
  have z : rv_same S S1 := (metX12_settle n S 64 (xs (p + 1)) (xs (p + 2)) (xs (p + 3)) _ _ e1).sh rfl
  have c1 := ckS z.1 (rc_189 hB)
  refine ⟨S', ⟨⟨m', wd, o, st, hW.qd q q6 (by decide +kernel)⟩, hP.f q.2.1 (by decide +kernel), g, hH.f q.2.1 rfl rfl rfl rfl, hO.f q.2.1 rfl rfl rfl rfl, hHV.f q.2.1 rfl rfl rfl rfl, hD.f q.2.1 rfl rfl rfl, ⟨Lt, tp_f ht q.2.1 rfl rfl rfl rfl⟩, fl_f hf q.2.1 rfl rfl, sh_f hs q.2.1.1, w_f hw q.2.1 rfl⟩, ?_⟩
  simp only [cL_law_788, v1, v2, v3, i1, i2, i3, Option.bind_some, rc_64 hB, rc_189 hB, c1, e1, e2, bp_s, eq_self, if_true, rv_lt_eq, e6]
theorem st_most (hn : 600000 ≤ n) (hL : L ≤ 3072) (hp : p + 6 ≤ L) (hi : i ≤ 1000) (h : Iv i S) : Go i p K (cL_law_837 n L xs K S 64 189 217 (nI p)) := by
  obtain ⟨⟨m, wd, o, st, hW⟩, hP, hG, hH, hO, hHV, hD, ⟨Lt, ht⟩, hf, hs, hw⟩ := id h
  obtain ⟨r, S', e1, e2, q⟩ := op_most (n := n) (by omega) hW.1 (xs (p + 1)) (xs (p + 2))
  have hB := hW.1.1
  obtain ⟨v1, v2, v3⟩ := h.vl
  have e6 : nI p + (6 : Int32) = nI (p + 6) := nI_add p 6
  have i1 : rv_ix L (nI p + (1 : Int32)) = some (p + 1) := ixp (k := 1) (by omega) hL
  have i2 : rv_ix L (nI p + (2 : Int32)) = some (p + 2) := ixp (k := 2) (by omega) hL
  refine ⟨S', h.q hW q rfl, ?_⟩
  simp only [cL_law_837, v1, v2, v3, i1, i2, Option.bind_some, rc_64 hB, rc_189 hB, e1, e2, bp_s, eq_self, if_true, rv_lt_eq, e6]
theorem st_payable (hn : 600000 ≤ n) (hL : L ≤ 3072) (hp : p + 6 ≤ L) (hi : i ≤ 1000) (h : Iv i S) : Go i p K (cL_law_874 n L xs K S 64 189 217 (nI p)) := by
  obtain ⟨⟨m, wd, o, st, hW⟩, hP, hG, hH, hO, hHV, hD, ⟨Lt, ht⟩, hf, hs, hw⟩ := id h
  obtain ⟨r, S1, S', e1, e2, q⟩ := op_payable (n := n) (by omega) hW.1 (xs (p + 1)) (xs (p + 2))
  have hB := hW.1.1
  obtain ⟨v1, v2, v3⟩ := h.vl
  have e6 : nI p + (6 : Int32) = nI (p + 6) := nI_add p 6
  have i1 : rv_ix L (nI p + (1 : Int32)) = some (p + 1) := ixp (k := 1) (by omega) hL
  have i2 : rv_ix L (nI p + (2 : Int32)) = some (p + 2) := ixp (k := 2) (by omega) hL
  have z : rv_same S S1 := (metX12_payable n S 64 (xs (p + 1)) (xs (p + 2)) _ _ e1).sh rfl
  have c1 := ckS z.1 (rc_189 hB)
  refine ⟨S', h.q hW q rfl, ?_⟩
  simp only [cL_law_874, v1, v2, v3, i1, i2, Option.bind_some, rc_64 hB, rc_189 hB, c1, e1, e2, bp_s, eq_self, if_true, rv_lt_eq, e6]
theorem st_keep (hn : 600000 ≤ n) (hL : L ≤ 3072) (hp : p + 6 ≤ L) (hi : i ≤ 1000) (h : Iv i S) : Go i p K (cL_law_911 n L xs K S 64 189 217 (nI p)) := by
  obtain ⟨⟨m, wd, o, st, hW⟩, hP, hG, hH, hO, hHV, hD, ⟨Lt, ht⟩, hf, hs, hw⟩ := id h
  obtain ⟨r, S1, S', e1, e2, q, g⟩ := op_keepW (n := n) (by omega) hW.1 hG (xs (p + 1)) (xs (p + 2)) (xs (p + 3)) (xs (p + 4)) (xs (p + 5))
  have hB := hW.1.1
  obtain ⟨v1, v2, v3⟩ := h.vl
  have e6 : nI p + (6 : Int32) = nI (p + 6) := nI_add p 6
  have i1 : rv_ix L (nI p + (1 : Int32)) = some (p + 1) := ixp (k := 1) (by omega) hL
  have i2 : rv_ix L (nI p + (2 : Int32)) = some (p + 2) := ixp (k := 2) (by omega) hL
  have i3 : rv_ix L (nI p + (3 : Int32)) = some (p + 3) := ixp (k := 3) (by omega) hL
  have i4 : rv_ix L (nI p + (4 : Int32)) = some (p + 4) := ixp (k := 4) (by omega) hL
  have i5 : rv_ix L (nI p + (5 : Int32)) = some (p + 5) := ixp (k := 5) (by omega) hL
  have z : rv_same S S1 := (metX12_keep n S 64 (xs (p + 1)) (xs (p + 2)) (xs (p + 3)) (xs (p + 4)) (xs (p + 5)) _ _ e1).sh rfl
  have c1 := ckS z.1 (rc_189 hB)
  refine ⟨S', ⟨⟨m, wd, o, st, hW.qd q rfl (by decide +kernel)⟩, hP.f q.2.1 (by decide +kernel), g, hH.f q.2.1 rfl rfl rfl rfl, hO.f q.2.1 rfl rfl rfl rfl, hHV.f q.2.1 rfl rfl rfl rfl, hD.f q.2.1 rfl rfl rfl, ⟨Lt, tp_f ht q.2.1 rfl rfl rfl rfl⟩, fl_f hf q.2.1 rfl rfl, sh_f hs q.2.1.1, w_f hw q.2.1 rfl⟩, ?_⟩
  simp only [cL_law_911, v1, v2, v3, i1, i2, i3, i4, i5, Option.bind_some, rc_64 hB, rc_189 hB, c1, e1, e2, bp_s, eq_self, if_true, rv_lt_eq, e6]
theorem st_change (hn : 600000 ≤ n) (hL : L ≤ 3072) (hp : p + 6 ≤ L) (hi : i ≤ 1000) (h : Iv i S) : Go i p K (cL_law_984 n L xs K S 64 189 217 (nI p)) := by
  obtain ⟨⟨m, wd, o, st, hW⟩, hP, hG, hH, hO, hHV, hD, ⟨Lt, ht⟩, hf, hs, hw⟩ := id h
  obtain ⟨r, S1, S', m', e1, e2, q, q6⟩ := op_change6 (n := n) (by omega) hW.1 (xs (p + 1)) (xs (p + 2))
  have hB := hW.1.1
  obtain ⟨v1, v2, v3⟩ := h.vl
  have e6 : nI p + (6 : Int32) = nI (p + 6) := nI_add p 6
  have i1 : rv_ix L (nI p + (1 : Int32)) = some (p + 1) := ixp (k := 1) (by omega) hL
  have i2 : rv_ix L (nI p + (2 : Int32)) = some (p + 2) := ixp (k := 2) (by omega) hL
  have z : rv_same S S1 := (metX12_change n S 64 (xs (p + 1)) (xs (p + 2)) _ _ e1).sh rfl
  have c1 := ckS z.1 (rc_189 hB)
  refine ⟨S', h.q hW q q6, ?_⟩
  simp only [cL_law_984, v1, v2, v3, i1, i2, Option.bind_some, rc_64 hB, rc_189 hB, c1, e1, e2, bp_s, eq_self, if_true, rv_lt_eq, e6]
theorem st_earned (hn : 600000 ≤ n) (hL : L ≤ 3072) (hp : p + 6 ≤ L) (hi : i ≤ 1000) (h : Iv i S) : Go i p K (cL_law_1021 n L xs K S 64 189 217 (nI p)) := by
  obtain ⟨⟨m, wd, o, st, hW⟩, hP, hG, hH, hO, hHV, hD, ⟨Lt, ht⟩, hf, hs, hw⟩ := id h
  obtain ⟨r, S', e1, e2, q⟩ := op_earned (n := n) (by omega) hW.1 (xs (p + 1))
  have hB := hW.1.1
  obtain ⟨v1, v2, v3⟩ := h.vl
  have e6 : nI p + (6 : Int32) = nI (p + 6) := nI_add p 6
  have i1 : rv_ix L (nI p + (1 : Int32)) = some (p + 1) := ixp (k := 1) (by omega) hL
  refine ⟨S', h.q hW q rfl, ?_⟩
  simp only [cL_law_1021, v1, v2, v3, i1, Option.bind_some, rc_64 hB, rc_189 hB, e1, e2, bp_s, eq_self, if_true, rv_lt_eq, e6]
theorem st_changed (hn : 600000 ≤ n) (hL : L ≤ 3072) (hp : p + 6 ≤ L) (hi : i ≤ 1000) (h : Iv i S) : Go i p K (cL_law_1046 n L xs K S 64 189 217 (nI p)) := by
  obtain ⟨⟨m, wd, o, st, hW⟩, hP, hG, hH, hO, hHV, hD, ⟨Lt, ht⟩, hf, hs, hw⟩ := id h
  obtain ⟨r, S', e1, e2, q⟩ := op_changed (n := n) (by omega) hW.1 (xs (p + 1)) (xs (p + 2))
  have hB := hW.1.1
  obtain ⟨v1, v2, v3⟩ := h.vl
  have e6 : nI p + (6 : Int32) = nI (p + 6) := nI_add p 6
  have i1 : rv_ix L (nI p + (1 : Int32)) = some (p + 1) := ixp (k := 1) (by omega) hL
  have i2 : rv_ix L (nI p + (2 : Int32)) = some (p + 2) := ixp (k := 2) (by omega) hL
  refine ⟨S', h.q hW q rfl, ?_⟩
  simp only [cL_law_1046, v1, v2, v3, i1, i2, Option.bind_some, rc_64 hB, rc_189 hB, e1, e2, bp_s, eq_self, if_true, rv_lt_eq, e6]
theorem st_steal (hn : 600000 ≤ n) (hL : L ≤ 3072) (hp : p + 6 ≤ L) (hi : i ≤ 1000) (h : Iv i S) : Go i p K (cL_law_1083 n L xs K S 64 189 217 (nI p)) := by
  obtain ⟨⟨m, wd, o, st, hW⟩, hP, hG, hH, hO, hHV, hD, ⟨Lt, ht⟩, hf, hs, hw⟩ := id h
  obtain ⟨r, S1, S', m', e1, e2, q, q6⟩ := op_steal6 (n := n) (by omega) hW.1 (xs (p + 1)) (xs (p + 2))
  have hB := hW.1.1
  obtain ⟨v1, v2, v3⟩ := h.vl
  have e6 : nI p + (6 : Int32) = nI (p + 6) := nI_add p 6
  have i1 : rv_ix L (nI p + (1 : Int32)) = some (p + 1) := ixp (k := 1) (by omega) hL
  have i2 : rv_ix L (nI p + (2 : Int32)) = some (p + 2) := ixp (k := 2) (by omega) hL
  have z : rv_same S S1 := (metX12_steal n S 64 (xs (p + 1)) (xs (p + 2)) _ _ e1).sh rfl
  have c1 := ckS z.1 (rc_189 hB)
  refine ⟨S', h.q hW q q6, ?_⟩
  simp only [cL_law_1083, v1, v2, v3, i1, i2, Option.bind_some, rc_64 hB, rc_189 hB, c1, e1, e2, bp_s, eq_self, if_true, rv_lt_eq, e6]
theorem st_wed (hn : 600000 ≤ n) (hL : L ≤ 3072) (hp : p + 6 ≤ L) (hi : i ≤ 1000) (h : Iv i S) : Go i p K (cL_law_1120 n L xs K S 64 189 217 (nI p)) := by
  obtain ⟨⟨m, wd, o, st, hW⟩, hP, hG, hH, hO, hHV, hD, ⟨Lt, ht⟩, hf, hs, hw⟩ := id h
  obtain ⟨r, S1, S', m', e1, e2, q, q6⟩ := op_wed6 (n := n) (by omega) hW.1 (xs (p + 1)) (xs (p + 2))
  have hB := hW.1.1
  obtain ⟨v1, v2, v3⟩ := h.vl
  have e6 : nI p + (6 : Int32) = nI (p + 6) := nI_add p 6
  have i1 : rv_ix L (nI p + (1 : Int32)) = some (p + 1) := ixp (k := 1) (by omega) hL
  have i2 : rv_ix L (nI p + (2 : Int32)) = some (p + 2) := ixp (k := 2) (by omega) hL
  have z : rv_same S S1 := (metX12_wed n S 64 (xs (p + 1)) (xs (p + 2)) _ _ e1).sh rfl
  have c1 := ckS z.1 (rc_189 hB)
  refine ⟨S', h.q hW q q6, ?_⟩
  simp only [cL_law_1120, v1, v2, v3, i1, i2, Option.bind_some, rc_64 hB, rc_189 hB, c1, e1, e2, bp_s, eq_self, if_true, rv_lt_eq, e6]
theorem st_born (hn : 600000 ≤ n) (hL : L ≤ 3072) (hp : p + 6 ≤ L) (hi : i ≤ 1000) (h : Iv i S) : Go i p K (cL_law_1157 n L xs K S 64 189 217 (nI p)) := by
  obtain ⟨⟨m, wd, o, st, hW⟩, hP, hG, hH, hO, hHV, hD, ⟨Lt, ht⟩, hf, hs, hw⟩ := id h
  obtain ⟨r, S1, S', m', e1, e2, q, q6⟩ := op_born6 (n := n) (by omega) hW.1 (xs (p + 1))
  have hB := hW.1.1
  obtain ⟨v1, v2, v3⟩ := h.vl
  have e6 : nI p + (6 : Int32) = nI (p + 6) := nI_add p 6
  have i1 : rv_ix L (nI p + (1 : Int32)) = some (p + 1) := ixp (k := 1) (by omega) hL
  have z : rv_same S S1 := (metX12_born n S 64 (xs (p + 1)) _ _ e1).sh rfl
  have c1 := ckS z.1 (rc_189 hB)
  refine ⟨S', h.q hW q q6, ?_⟩
  simp only [cL_law_1157, v1, v2, v3, i1, Option.bind_some, rc_64 hB, rc_189 hB, c1, e1, e2, bp_s, eq_self, if_true, rv_lt_eq, e6]
theorem st_dies (hn : 600000 ≤ n) (hL : L ≤ 3072) (hp : p + 6 ≤ L) (hi : i ≤ 1000) (h : Iv i S) : Go i p K (cL_law_1182 n L xs K S 64 189 217 (nI p)) := by
  obtain ⟨⟨m, wd, o, st, hW⟩, hP, hG, hH, hO, hHV, hD, ⟨Lt, ht⟩, hf, hs, hw⟩ := id h
  obtain ⟨r, S1, S', m', e1, e2, q, q6⟩ := op_dies6 (n := n) (by omega) hW.1 (xs (p + 1)) (xs (p + 2))
  have hB := hW.1.1
  obtain ⟨v1, v2, v3⟩ := h.vl
  have e6 : nI p + (6 : Int32) = nI (p + 6) := nI_add p 6
  have i1 : rv_ix L (nI p + (1 : Int32)) = some (p + 1) := ixp (k := 1) (by omega) hL
  have i2 : rv_ix L (nI p + (2 : Int32)) = some (p + 2) := ixp (k := 2) (by omega) hL
  have z : rv_same S S1 := (metX12_dies n S 64 (xs (p + 1)) (xs (p + 2)) _ _ e1).sh rfl
  have c1 := ckS z.1 (rc_189 hB)
  refine ⟨S', h.q hW q q6, ?_⟩
  simp only [cL_law_1182, v1, v2, v3, i1, i2, Option.bind_some, rc_64 hB, rc_189 hB, c1, e1, e2, bp_s, eq_self, if_true, rv_lt_eq, e6]
theorem st_stuck (hn : 600000 ≤ n) (hL : L ≤ 3072) (hp : p + 6 ≤ L) (hi : i ≤ 1000) (h : Iv i S) : Go i p K (cL_law_1219 n L xs K S 64 189 217 (nI p)) := by
  obtain ⟨⟨m, wd, o, st, hW⟩, hP, hG, hH, hO, hHV, hD, ⟨Lt, ht⟩, hf, hs, hw⟩ := id h
  obtain ⟨r, S', e1, e2, q⟩ := op_stuck (n := n) (by omega) hW.1 (xs (p + 1))
  have hB := hW.1.1
  obtain ⟨v1, v2, v3⟩ := h.vl
  have e6 : nI p + (6 : Int32) = nI (p + 6) := nI_add p 6
  have i1 : rv_ix L (nI p + (1 : Int32)) = some (p + 1) := ixp (k := 1) (by omega) hL
  refine ⟨S', h.q hW q rfl, ?_⟩
  simp only [cL_law_1219, v1, v2, v3, i1, Option.bind_some, rc_64 hB, rc_189 hB, e1, e2, bp_s, eq_self, if_true, rv_lt_eq, e6]
theorem st_frees (hn : 600000 ≤ n) (hL : L ≤ 3072) (hp : p + 6 ≤ L) (hi : i ≤ 1000) (h : Iv i S) : Go i p K (cL_law_1244 n L xs K S 64 189 217 (nI p)) := by
  obtain ⟨⟨m, wd, o, st, hW⟩, hP, hG, hH, hO, hHV, hD, ⟨Lt, ht⟩, hf, hs, hw⟩ := id h
  obtain ⟨r, S', e1, e2, q⟩ := op_frees (n := n) (by omega) hW.1 (xs (p + 1))
  have hB := hW.1.1
  obtain ⟨v1, v2, v3⟩ := h.vl
  have e6 : nI p + (6 : Int32) = nI (p + 6) := nI_add p 6
  have i1 : rv_ix L (nI p + (1 : Int32)) = some (p + 1) := ixp (k := 1) (by omega) hL
  refine ⟨S', h.q hW q rfl, ?_⟩
  simp only [cL_law_1244, v1, v2, v3, i1, Option.bind_some, rc_64 hB, rc_189 hB, e1, e2, bp_s, eq_self, if_true, rv_lt_eq, e6]
theorem st_cradle (hn : 600000 ≤ n) (hL : L ≤ 3072) (hp : p + 6 ≤ L) (hi : i ≤ 1000) (h : Iv i S) : Go i p K (cL_law_1269 n L xs K S 64 189 217 (nI p)) := by
  obtain ⟨⟨m, wd, o, st, hW⟩, hP, hG, hH, hO, hHV, hD, ⟨Lt, ht⟩, hf, hs, hw⟩ := id h
  obtain ⟨r, S', e1, e2, q⟩ := op_cradle (n := n) (by omega) hW.1
  have hB := hW.1.1
  obtain ⟨v1, v2, v3⟩ := h.vl
  have e6 : nI p + (6 : Int32) = nI (p + 6) := nI_add p 6
  refine ⟨S', h.q hW q rfl, ?_⟩
  simp only [cL_law_1269, v1, v2, v3, Option.bind_some, rc_64 hB, rc_189 hB, e1, e2, bp_s, eq_self, if_true, rv_lt_eq, e6]
theorem st_opens (hn : 600000 ≤ n) (hL : L ≤ 3072) (hp : p + 6 ≤ L) (hi : i ≤ 1000) (h : Iv i S) : Go i p K (cL_law_1282 n L xs K S 64 189 217 (nI p)) := by
  obtain ⟨⟨m, wd, o, st, hW⟩, hP, hG, hH, hO, hHV, hD, ⟨Lt, ht⟩, hf, hs, hw⟩ := id h
  obtain ⟨r, S1, S', e1, e2, q, -⟩ := op_opens (n := n) (by omega) hW.1 hW.2.1
  have hB := hW.1.1
  obtain ⟨v1, v2, v3⟩ := h.vl
  have e6 : nI p + (6 : Int32) = nI (p + 6) := nI_add p 6
  have z : rv_same S S1 := (metX12_opens n S 64 _ _ e1).sh rfl
  have c1 := ckS z.1 (rc_189 hB)
  refine ⟨S', h.q hW q rfl, ?_⟩
  simp only [cL_law_1282, v1, v2, v3, Option.bind_some, rc_64 hB, rc_189 hB, c1, e1, e2, bp_s, eq_self, if_true, rv_lt_eq, e6]
theorem st_hands (hn : 600000 ≤ n) (hL : L ≤ 3072) (hp : p + 6 ≤ L) (hi : i ≤ 1000) (h : Iv i S) : Go i p K (cL_law_1295 n L xs K S 64 189 217 (nI p)) := by
  obtain ⟨⟨m, wd, o, st, hW⟩, hP, hG, hH, hO, hHV, hD, ⟨Lt, ht⟩, hf, hs, hw⟩ := id h
  obtain ⟨r, S1, S', e1, e2, q, g⟩ := op_hands (n := n) (by omega) hW.1 hH (xs (p + 1)) (xs (p + 2))
  have hB := hW.1.1
  obtain ⟨v1, v2, v3⟩ := h.vl
  have e6 : nI p + (6 : Int32) = nI (p + 6) := nI_add p 6
  have i1 : rv_ix L (nI p + (1 : Int32)) = some (p + 1) := ixp (k := 1) (by omega) hL
  have i2 : rv_ix L (nI p + (2 : Int32)) = some (p + 2) := ixp (k := 2) (by omega) hL
  have z : rv_same S S1 := (metX12_hands n S 64 (xs (p + 1)) (xs (p + 2)) _ _ e1).sh rfl
  have c1 := ckS z.1 (rc_189 hB)
  refine ⟨S', ⟨⟨m, wd, o, st, hW.qd q rfl (by decide +kernel)⟩, hP.f q.2.1 (by decide +kernel), hG.f q.2.1 rfl rfl rfl rfl, g, hO.f q.2.1 rfl rfl rfl rfl, hHV.f q.2.1 rfl rfl rfl rfl, hD.f q.2.1 rfl rfl rfl, ⟨Lt, tp_f ht q.2.1 rfl rfl rfl rfl⟩, fl_f hf q.2.1 rfl rfl, sh_f hs q.2.1.1, w_f hw q.2.1 rfl⟩, ?_⟩
  simp only [cL_law_1295, v1, v2, v3, i1, i2, Option.bind_some, rc_64 hB, rc_189 hB, c1, e1, e2, bp_s, eq_self, if_true, rv_lt_eq, e6]
theorem st_handAt (hn : 600000 ≤ n) (hL : L ≤ 3072) (hp : p + 6 ≤ L) (hi : i ≤ 1000) (h : Iv i S) : Go i p K (cL_law_1332 n L xs K S 64 189 217 (nI p)) := by
  obtain ⟨⟨m, wd, o, st, hW⟩, hP, hG, hH, hO, hHV, hD, ⟨Lt, ht⟩, hf, hs, hw⟩ := id h
  obtain ⟨r, S', e1, e2, q⟩ := op_handAt (n := n) hW.1 hH (xs (p + 1))
  have hB := hW.1.1
  obtain ⟨v1, v2, v3⟩ := h.vl
  have e6 : nI p + (6 : Int32) = nI (p + 6) := nI_add p 6
  have i1 : rv_ix L (nI p + (1 : Int32)) = some (p + 1) := ixp (k := 1) (by omega) hL
  refine ⟨S', h.q hW q rfl, ?_⟩
  simp only [cL_law_1332, v1, v2, v3, i1, Option.bind_some, rc_64 hB, rc_189 hB, e1, e2, bp_s, eq_self, if_true, rv_lt_eq, e6]
theorem st_again (hn : 600000 ≤ n) (hL : L ≤ 3072) (hp : p + 6 ≤ L) (hi : i ≤ 1000) (h : Iv i S) : Go i p K (cL_law_1357 n L xs K S 64 189 217 (nI p)) := by
  obtain ⟨⟨m, wd, o, st, hW⟩, hP, hG, hH, hO, hHV, hD, ⟨Lt, ht⟩, hf, hs, hw⟩ := id h
  obtain ⟨r, S1, S', e1, e2, q⟩ := op_again (n := n) (by omega) hW.1 (xs (p + 1))
  have hB := hW.1.1
  obtain ⟨v1, v2, v3⟩ := h.vl
  have e6 : nI p + (6 : Int32) = nI (p + 6) := nI_add p 6
  have i1 : rv_ix L (nI p + (1 : Int32)) = some (p + 1) := ixp (k := 1) (by omega) hL
  have z : rv_same S S1 := (metX12_again n S 64 (xs (p + 1)) _ _ e1).sh rfl
  have c1 := ckS z.1 (rc_189 hB)
  refine ⟨S', h.q hW q rfl, ?_⟩
  simp only [cL_law_1357, v1, v2, v3, i1, Option.bind_some, rc_64 hB, rc_189 hB, c1, e1, e2, bp_s, eq_self, if_true, rv_lt_eq, e6]
theorem st_ever (hn : 600000 ≤ n) (hL : L ≤ 3072) (hp : p + 6 ≤ L) (hi : i ≤ 1000) (h : Iv i S) : Go i p K (cL_law_1382 n L xs K S 64 189 217 (nI p)) := by
  obtain ⟨⟨m, wd, o, st, hW⟩, hP, hG, hH, hO, hHV, hD, ⟨Lt, ht⟩, hf, hs, hw⟩ := id h
  obtain ⟨r, S1, S', e1, e2, q⟩ := op_ever (n := n) (by omega) hW.1 (xs (p + 1))
  have hB := hW.1.1
  obtain ⟨v1, v2, v3⟩ := h.vl
  have e6 : nI p + (6 : Int32) = nI (p + 6) := nI_add p 6
  have i1 : rv_ix L (nI p + (1 : Int32)) = some (p + 1) := ixp (k := 1) (by omega) hL
  have z : rv_same S S1 := (metX12_ever n S 64 (xs (p + 1)) _ _ e1).sh rfl
  have c1 := ckS z.1 (rc_189 hB)
  refine ⟨S', h.q hW q rfl, ?_⟩
  simp only [cL_law_1382, v1, v2, v3, i1, Option.bind_some, rc_64 hB, rc_189 hB, c1, e1, e2, bp_s, eq_self, if_true, rv_lt_eq, e6]
theorem st_debt (hn : 600000 ≤ n) (hL : L ≤ 3072) (hp : p + 6 ≤ L) (hi : i ≤ 1000) (h : Iv i S) : Go i p K (cL_law_1407 n L xs K S 64 189 217 (nI p)) := by
  obtain ⟨⟨m, wd, o, st, hW⟩, hP, hG, hH, hO, hHV, hD, ⟨Lt, ht⟩, hf, hs, hw⟩ := id h
  have hB := hW.1.1
  obtain ⟨v1, v2, v3⟩ := h.vl
  have e6 : nI p + (6 : Int32) = nI (p + 6) := nI_add p 6
  have i1 : rv_ix L (nI p + (1 : Int32)) = some (p + 1) := ixp (k := 1) (by omega) hL
  have i2 : rv_ix L (nI p + (2 : Int32)) = some (p + 2) := ixp (k := 2) (by omega) hL
  by_cases hT : ftX12_debt n S 64 (xs (p + 1)) (xs (p + 2)) = some ()
  · obtain ⟨w, w1, w2, w3⟩ := hw
    obtain ⟨S1, eS1⟩ : ∃ S1, S1 = rv_wst S := ⟨_, rfl⟩
    have f1 : rvf [60] S S1 := by
      rw [eS1]
      exact (rvf.sIr S _ _ rfl).tr (rvf.sIr _ _ _ rfl)
    have hW1 := hW.f f1 rfl
    have wok : rv_wok S = true := by
      unfold rv_wok
      rw [w2, w3]
      exact wok_of (by omega)
    have eL : fnL_debt n S 64 (xs (p + 1)) (xs (p + 2)) 217 = some (1, S1) := by
      rw [fnL_debt, rc_64 hB, Option.bind_some, if_pos hT, if_pos wok, eS1]
    have c1 := ckS f1.1 (rc_189 hB)
    rcases op_debt (n := n) (by omega) hW.1 hW1.1 (xs (p + 1)) (xs (p + 2)) with ⟨-, r, S', e2, q, t0⟩ | ⟨z, -⟩
    · have c2 := rc_189 q.1.1
      have et : fnX13_thrown n S' 189 = some (1 : Int32) := by
        rw [fnX13_thrown, tk_gI, c2, Option.map_some, Option.bind_some, t0]
        rfl
      have g60 : S1.2.1 60 0 = nI (w + 1) ∧ S1.2.1 60 1 = nI (6 * (w + 1)) := by
        rw [eS1]
        unfold rv_wst
        refine ⟨?_, ?_⟩
        · rw [rv_sI_k _ _ (by decide), rv_sI_eq, w2]
          exact nI_add w 1
        · rw [rv_sI_eq, w3]
          exact nI_add (6 * w) 6
      have fq : rvf (60 :: DV) S S' := (f1.mono (by decide +kernel)).tr (q.2.1.mono (by decide +kernel))
      refine ⟨S', ⟨⟨m, wd, o, st, hW1.qd (D := DV) q rfl (by decide +kernel)⟩, hP.f fq (by decide +kernel), hG.f fq rfl rfl rfl rfl, hH.f fq rfl rfl rfl rfl, hO.f fq rfl rfl rfl rfl, hHV.f fq rfl rfl rfl rfl, hD.f fq rfl rfl rfl, ⟨Lt, tp_f ht fq rfl rfl rfl rfl⟩, fl_f hf fq rfl rfl, sh_f hs fq.1, ⟨w + 1, by omega, (q.2.1.row (a := 60) rfl rfl 0).trans g60.1, (q.2.1.row (a := 60) rfl rfl 1).trans g60.2⟩⟩, ?_⟩
      simp only [cL_law_1407, v1, v2, v3, i1, i2, Option.bind_some, rc_64 hB, rc_189 hB, c1, c2, eL, e2, et, bp_s, eq_self, if_true, rv_lt_eq, e6]
      rw [if_neg (by decide)]
    · exact absurd hT z
  · rcases op_debt (n := n) (by omega) hW.1 hW.1 (xs (p + 1)) (xs (p + 2)) with ⟨z, -⟩ | ⟨-, r, -, ec, -⟩
    · exact absurd z hT
    · obtain ⟨S1, eS1⟩ : ∃ S1, S1 = rv_sL S 217 0 r.toInt64 := ⟨_, rfl⟩
      have f1 : rvf [217] S S1 := by
        rw [eS1]
        exact rvf.sLr S _ _ rfl
      have hW1 := hW.f f1 rfl
      have uL : rv_uL S 217 0 r.toInt64 = some S1 := by
        unfold rv_uL
        rw [rn_217 hB, Option.bind_some, show rv_ix 1 (0 : Int32) = some 0 from tk_ix (n := 1) (j := 0) (by decide) (by decide), Option.bind_some, eS1]
      have eL : fnL_debt n S 64 (xs (p + 1)) (xs (p + 2)) 217 = some (0, S1) := by
        rw [fnL_debt, rc_64 hB, Option.bind_some, if_neg hT, ec, Option.bind_some, uL, Option.bind_some]
      have c1 := ckS f1.1 (rc_189 hB)
      rcases op_debt (n := n) (by omega) hW.1 hW1.1 (xs (p + 1)) (xs (p + 2)) with ⟨z, -⟩ | ⟨-, r2, S', ec2, e2, q, t0⟩
      · exact absurd z hT
      · have er : r2 = r := by
          rw [ec] at ec2
          exact (Option.some.inj ec2).symm
        rw [er] at e2
        have c2 := rc_189 q.1.1
        have et : fnX13_thrown n S' 189 = some (0 : Int32) := by
          rw [fnX13_thrown, tk_gI, c2, Option.map_some, Option.bind_some, t0]
          rfl
        have l217 : S'.2.2.1 217 0 = r.toInt64 := (q.2.1.rowL (a := 217) rfl rfl 0).trans (by rw [eS1]; exact rv_sL_eq _ _ _ _)
        have ea : rv_aL S' 217 (0 : Int32) = some r.toInt64 := by
          unfold rv_aL
          rw [rn_217 q.1.1, Option.bind_some, show rv_ix 1 (0 : Int32) = some 0 from tk_ix (n := 1) (j := 0) (by decide) (by decide), Option.bind_some, l217]
        have el : lg_cmp r.toInt64 r.toInt64 = 0 := (lg_cmp_eq _ _).mpr rfl
        have fq : rvf (217 :: DV) S S' := (f1.mono (by decide +kernel)).tr (q.2.1.mono (by decide +kernel))
        refine ⟨S', h.fr fq ⟨m, wd, o, st, hW1.qd (D := DV) q rfl (by decide +kernel)⟩ (by decide +kernel) (by decide +kernel), ?_⟩
        simp only [cL_law_1407, v1, v2, v3, i1, i2, Option.bind_some, rc_64 hB, rc_189 hB, c1, c2, eL, e2, et, ea, el, bp_s, eq_self, if_true, rv_lt_eq, e6]
theorem st_clear (hn : 600000 ≤ n) (hL : L ≤ 3072) (hp : p + 6 ≤ L) (hi : i ≤ 1000) (h : Iv i S) : Go i p K (cL_law_1475 n L xs K S 64 189 217 (nI p)) := by
  obtain ⟨⟨m, wd, o, st, hW⟩, hP, hG, hH, hO, hHV, hD, ⟨Lt, ht⟩, hf, hs, hw⟩ := id h
  obtain ⟨r, S1, S', m', e1, e2, q, q6⟩ := op_clear6 (n := n) (by omega) hW.1 (xs (p + 1))
  have hB := hW.1.1
  obtain ⟨v1, v2, v3⟩ := h.vl
  have e6 : nI p + (6 : Int32) = nI (p + 6) := nI_add p 6
  have i1 : rv_ix L (nI p + (1 : Int32)) = some (p + 1) := ixp (k := 1) (by omega) hL
  have z : rv_same S S1 := (metX12_clear n S 64 (xs (p + 1)) _ _ e1).sh rfl
  have c1 := ckS z.1 (rc_189 hB)
  refine ⟨S', h.q hW q q6, ?_⟩
  simp only [cL_law_1475, v1, v2, v3, i1, Option.bind_some, rc_64 hB, rc_189 hB, c1, e1, e2, bp_s, eq_self, if_true, rv_lt_eq, e6]
theorem st_orders (hn : 600000 ≤ n) (hL : L ≤ 3072) (hp : p + 6 ≤ L) (hi : i ≤ 1000) (h : Iv i S) : Go i p K (cL_law_1500 n L xs K S 64 189 217 (nI p)) := by
  obtain ⟨⟨m, wd, o, st, hW⟩, hP, hG, hH, hO, hHV, hD, ⟨Lt, ht⟩, hf, hs, hw⟩ := id h
  obtain ⟨r, S1, S', e1, e2, q, g, g2⟩ := op_orders (n := n) (by omega) hW.1 ht hO
  have hB := hW.1.1
  obtain ⟨v1, v2, v3⟩ := h.vl
  have e6 : nI p + (6 : Int32) = nI (p + 6) := nI_add p 6
  have z : rv_same S S1 := (metX12_orders n S 64 _ _ e1).sh rfl
  have c1 := ckS z.1 (rc_189 hB)
  refine ⟨S', ⟨⟨m, wd, o, st, hW.qd q rfl (by decide +kernel)⟩, hP.f q.2.1 (by decide +kernel), hG.f q.2.1 rfl rfl rfl rfl, hH.f q.2.1 rfl rfl rfl rfl, g, hHV.f q.2.1 rfl rfl rfl rfl, hD.f q.2.1 rfl rfl rfl, ⟨0, g2⟩, fl_f hf q.2.1 rfl rfl, sh_f hs q.2.1.1, w_f hw q.2.1 rfl⟩, ?_⟩
  simp only [cL_law_1500, v1, v2, v3, Option.bind_some, rc_64 hB, rc_189 hB, c1, e1, e2, bp_s, eq_self, if_true, rv_lt_eq, e6]
theorem st_orderAt (hn : 600000 ≤ n) (hL : L ≤ 3072) (hp : p + 6 ≤ L) (hi : i ≤ 1000) (h : Iv i S) : Go i p K (cL_law_1513 n L xs K S 64 189 217 (nI p)) := by
  obtain ⟨⟨m, wd, o, st, hW⟩, hP, hG, hH, hO, hHV, hD, ⟨Lt, ht⟩, hf, hs, hw⟩ := id h
  obtain ⟨r, S', e1, e2, q⟩ := op_orderAt (n := n) hW.1 hO (xs (p + 1))
  have hB := hW.1.1
  obtain ⟨v1, v2, v3⟩ := h.vl
  have e6 : nI p + (6 : Int32) = nI (p + 6) := nI_add p 6
  have i1 : rv_ix L (nI p + (1 : Int32)) = some (p + 1) := ixp (k := 1) (by omega) hL
  refine ⟨S', h.q hW q rfl, ?_⟩
  simp only [cL_law_1513, v1, v2, v3, i1, Option.bind_some, rc_64 hB, rc_189 hB, e1, e2, bp_s, eq_self, if_true, rv_lt_eq, e6]
theorem st_ways (hn : 600000 ≤ n) (hL : L ≤ 3072) (hp : p + 6 ≤ L) (hi : i ≤ 1000) (h : Iv i S) : Go i p K (cL_law_1538 n L xs K S 64 189 217 (nI p)) := by
  obtain ⟨⟨m, wd, o, st, hW⟩, hP, hG, hH, hO, hHV, hD, ⟨Lt, ht⟩, hf, hs, hw⟩ := id h
  obtain ⟨r, S1, S', e1, e2, q, g⟩ := op_ways (n := n) (by omega) hW.1 hHV (xs (p + 1)) (xs (p + 2)) (xs (p + 3))
  have hB := hW.1.1
  obtain ⟨v1, v2, v3⟩ := h.vl
  have e6 : nI p + (6 : Int32) = nI (p + 6) := nI_add p 6
  have i1 : rv_ix L (nI p + (1 : Int32)) = some (p + 1) := ixp (k := 1) (by omega) hL
  have i2 : rv_ix L (nI p + (2 : Int32)) = some (p + 2) := ixp (k := 2) (by omega) hL
  have i3 : rv_ix L (nI p + (3 : Int32)) = some (p + 3) := ixp (k := 3) (by omega) hL
  have z : rv_same S S1 := (metX12_ways n S 64 (xs (p + 1)) (xs (p + 2)) (xs (p + 3)) _ _ e1).sh rfl
  have c1 := ckS z.1 (rc_189 hB)
  refine ⟨S', ⟨⟨m, wd, o, st, hW.qd q rfl (by decide +kernel)⟩, hP.f q.2.1 (by decide +kernel), hG.f q.2.1 rfl rfl rfl rfl, hH.f q.2.1 rfl rfl rfl rfl, hO.f q.2.1 rfl rfl rfl rfl, g, hD.f q.2.1 rfl rfl rfl, ⟨Lt, tp_f ht q.2.1 rfl rfl rfl rfl⟩, fl_f hf q.2.1 rfl rfl, sh_f hs q.2.1.1, w_f hw q.2.1 rfl⟩, ?_⟩
  simp only [cL_law_1538, v1, v2, v3, i1, i2, i3, Option.bind_some, rc_64 hB, rc_189 hB, c1, e1, e2, bp_s, eq_self, if_true, rv_lt_eq, e6]
theorem st_had (hn : 600000 ≤ n) (hL : L ≤ 3072) (hp : p + 6 ≤ L) (hi : i ≤ 1000) (h : Iv i S) : Go i p K (cL_law_1587 n L xs K S 64 189 217 (nI p)) := by
  obtain ⟨⟨m, wd, o, st, hW⟩, hP, hG, hH, hO, hHV, hD, ⟨Lt, ht⟩, hf, hs, hw⟩ := id h
  obtain ⟨r, S', e1, e2, q⟩ := op_had (n := n) hW.1 hHV (xs (p + 1))
  have hB := hW.1.1
  obtain ⟨v1, v2, v3⟩ := h.vl
  have e6 : nI p + (6 : Int32) = nI (p + 6) := nI_add p 6
  have i1 : rv_ix L (nI p + (1 : Int32)) = some (p + 1) := ixp (k := 1) (by omega) hL
  refine ⟨S', h.q hW q rfl, ?_⟩
  simp only [cL_law_1587, v1, v2, v3, i1, Option.bind_some, rc_64 hB, rc_189 hB, e1, e2, bp_s, eq_self, if_true, rv_lt_eq, e6]
theorem st_days (hn : 600000 ≤ n) (hL : L ≤ 3072) (hp : p + 6 ≤ L) (hi : i ≤ 1000) (h : Iv i S) : Go i p K (cL_law_1612 n L xs K S 64 189 217 (nI p)) := by
  obtain ⟨⟨m, wd, o, st, hW⟩, hP, hG, hH, hO, hHV, hD, ⟨Lt, ht⟩, hf, hs, hw⟩ := id h
  obtain ⟨r, S1, S', m', e1, e2, q, q6, g⟩ := op_days6 (n := n) (by omega) hW.1 hD (xs (p + 1)) (xs (p + 2))
  have hB := hW.1.1
  obtain ⟨v1, v2, v3⟩ := h.vl
  have e6 : nI p + (6 : Int32) = nI (p + 6) := nI_add p 6
  have i1 : rv_ix L (nI p + (1 : Int32)) = some (p + 1) := ixp (k := 1) (by omega) hL
  have i2 : rv_ix L (nI p + (2 : Int32)) = some (p + 2) := ixp (k := 2) (by omega) hL
  have z : rv_same S S1 := (metX12_days n S 64 (xs (p + 1)) (xs (p + 2)) _ _ e1).sh rfl
  have c1 := ckS z.1 (rc_189 hB)
  refine ⟨S', ⟨⟨m', wd, o, st, hW.qd q q6 (by decide +kernel)⟩, hP.f q.2.1 (by decide +kernel), hG.f q.2.1 rfl rfl rfl rfl, hH.f q.2.1 rfl rfl rfl rfl, hO.f q.2.1 rfl rfl rfl rfl, hHV.f q.2.1 rfl rfl rfl rfl, g, ⟨Lt, tp_f ht q.2.1 rfl rfl rfl rfl⟩, fl_f hf q.2.1 rfl rfl, sh_f hs q.2.1.1, w_f hw q.2.1 rfl⟩, ?_⟩
  simp only [cL_law_1612, v1, v2, v3, i1, i2, Option.bind_some, rc_64 hB, rc_189 hB, c1, e1, e2, bp_s, eq_self, if_true, rv_lt_eq, e6]
theorem st_drawn (hn : 600000 ≤ n) (hL : L ≤ 3072) (hp : p + 6 ≤ L) (hi : i ≤ 1000) (h : Iv i S) : Go i p K (cL_law_1649 n L xs K S 64 189 217 (nI p)) := by
  obtain ⟨⟨m, wd, o, st, hW⟩, hP, hG, hH, hO, hHV, hD, ⟨Lt, ht⟩, hf, hs, hw⟩ := id h
  obtain ⟨r, S', e1, e2, q⟩ := op_drawn (n := n) hW.1 hD (xs (p + 1))
  have hB := hW.1.1
  obtain ⟨v1, v2, v3⟩ := h.vl
  have e6 : nI p + (6 : Int32) = nI (p + 6) := nI_add p 6
  have i1 : rv_ix L (nI p + (1 : Int32)) = some (p + 1) := ixp (k := 1) (by omega) hL
  refine ⟨S', h.q hW q rfl, ?_⟩
  simp only [cL_law_1649, v1, v2, v3, i1, Option.bind_some, rc_64 hB, rc_189 hB, e1, e2, bp_s, eq_self, if_true, rv_lt_eq, e6]
theorem st_trade (hn : 600000 ≤ n) (hL : L ≤ 3072) (hp : p + 6 ≤ L) (hi : i ≤ 1000) (h : Iv i S) : Go i p K (cL_law_1674 n L xs K S 64 189 217 (nI p)) := by
  obtain ⟨⟨m, wd, o, st, hW⟩, hP, hG, hH, hO, hHV, hD, ⟨Lt, ht⟩, hf, hs, hw⟩ := id h
  obtain ⟨r, S1, S', e1, e2, q, -⟩ := op_trade (n := n) (by omega) hW.1 hW.2.1 (xs (p + 1)) (xs (p + 2)) (xs (p + 3))
  have hB := hW.1.1
  obtain ⟨v1, v2, v3⟩ := h.vl
  have e6 : nI p + (6 : Int32) = nI (p + 6) := nI_add p 6
  have i1 : rv_ix L (nI p + (1 : Int32)) = some (p + 1) := ixp (k := 1) (by omega) hL
  have i2 : rv_ix L (nI p + (2 : Int32)) = some (p + 2) := ixp (k := 2) (by omega) hL
  have i3 : rv_ix L (nI p + (3 : Int32)) = some (p + 3) := ixp (k := 3) (by omega) hL
  have z : rv_same S S1 := (metX12_trade n S 64 (xs (p + 1)) (xs (p + 2)) (xs (p + 3)) _ _ e1).sh rfl
  have c1 := ckS z.1 (rc_189 hB)
  refine ⟨S', h.q hW q rfl, ?_⟩
  simp only [cL_law_1674, v1, v2, v3, i1, i2, i3, Option.bind_some, rc_64 hB, rc_189 hB, c1, e1, e2, bp_s, eq_self, if_true, rv_lt_eq, e6]
theorem st_sentence (hn : 600000 ≤ n) (hL : L ≤ 3072) (hp : p + 6 ≤ L) (hi : i ≤ 1000) (h : Iv i S) : Go i p K (cL_law_1723 n L xs K S 64 189 217 (nI p)) := by
  obtain ⟨⟨m, wd, o, st, hW⟩, hP, hG, hH, hO, hHV, hD, ⟨Lt, ht⟩, hf, hs, hw⟩ := id h
  obtain ⟨r, S1, S', o', st', fk, e1, e2, w', t', x1, x2, f⟩ := op_sentence (n := n) (by omega) hW ht
  have hB := hW.1.1
  obtain ⟨v1, v2, v3⟩ := h.vl
  have e6 : nI p + (6 : Int32) = nI (p + 6) := nI_add p 6
  have z : rv_same S S1 := (metX12_sentence n S 64 _ _ e1).sh rfl
  have c1 := ckS z.1 (rc_189 hB)
  refine ⟨S', ⟨⟨m, wd, o', st', w'⟩, hP.f f (by decide +kernel), hG.f f rfl rfl rfl rfl, hH.f f rfl rfl rfl rfl, hO.f f rfl rfl rfl rfl, hHV.f f rfl rfl rfl rfl, hD.f f rfl rfl rfl, ⟨0, t'⟩, x1.trans x2.symm, sh_f hs f.1, w_f hw f rfl⟩, ?_⟩
  simp only [cL_law_1723, v1, v2, v3, Option.bind_some, rc_64 hB, rc_189 hB, c1, e1, e2, bp_s, eq_self, if_true, rv_lt_eq, e6]
theorem st_said (hn : 600000 ≤ n) (hL : L ≤ 3072) (hp : p + 6 ≤ L) (hi : i ≤ 1000) (h : Iv i S) : Go i p K (cL_law_1736 n L xs K S 64 189 217 (nI p)) := by
  obtain ⟨⟨m, wd, o, st, hW⟩, hP, hG, hH, hO, hHV, hD, ⟨Lt, ht⟩, hf, hs, hw⟩ := id h
  obtain ⟨r, S1, S', e1, e2, q⟩ := op_said (n := n) (by omega) hW (xs (p + 1))
  have hB := hW.1.1
  obtain ⟨v1, v2, v3⟩ := h.vl
  have e6 : nI p + (6 : Int32) = nI (p + 6) := nI_add p 6
  have i1 : rv_ix L (nI p + (1 : Int32)) = some (p + 1) := ixp (k := 1) (by omega) hL
  have z : rv_same S S1 := (metX12_said n S 64 (xs (p + 1)) _ _ e1).sh rfl
  have c1 := ckS z.1 (rc_189 hB)
  refine ⟨S', h.q hW q rfl, ?_⟩
  simp only [cL_law_1736, v1, v2, v3, i1, Option.bind_some, rc_64 hB, rc_189 hB, c1, e1, e2, bp_s, eq_self, if_true, rv_lt_eq, e6]
theorem st_image (hn : 600000 ≤ n) (hL : L ≤ 3072) (hp : p + 6 ≤ L) (hi : i ≤ 1000) (h : Iv i S) : Go i p K (cL_law_1761 n L xs K S 64 189 217 (nI p)) := by
  obtain ⟨⟨m, wd, o, st, hW⟩, hP, hG, hH, hO, hHV, hD, ⟨Lt, ht⟩, hf, hs, hw⟩ := id h
  obtain ⟨r, S1, S', e1, e2, w', g, f⟩ := op_image (n := n) (by omega) hW hP (xs (p + 1))
  have hB := hW.1.1
  obtain ⟨v1, v2, v3⟩ := h.vl
  have e6 : nI p + (6 : Int32) = nI (p + 6) := nI_add p 6
  have i1 : rv_ix L (nI p + (1 : Int32)) = some (p + 1) := ixp (k := 1) (by omega) hL
  have z : rv_same S S1 := (metX12_image n S 64 (xs (p + 1)) _ _ e1).sh rfl
  have c1 := ckS z.1 (rc_189 hB)
  refine ⟨S', ⟨⟨m, wd, o, st, w'⟩, g, hG.f f rfl rfl rfl rfl, hH.f f rfl rfl rfl rfl, hO.f f rfl rfl rfl rfl, hHV.f f rfl rfl rfl rfl, hD.f f rfl rfl rfl, ⟨Lt, tp_f ht f rfl rfl rfl rfl⟩, fl_f hf f rfl rfl, sh_f hs f.1, w_f hw f rfl⟩, ?_⟩
  simp only [cL_law_1761, v1, v2, v3, i1, Option.bind_some, rc_64 hB, rc_189 hB, c1, e1, e2, bp_s, eq_self, if_true, rv_lt_eq, e6]
theorem st_restore (hn : 600000 ≤ n) (hL : L ≤ 3072) (hp : p + 6 ≤ L) (hi : i ≤ 1000) (h : Iv i S) : Go i p K (cL_law_1786 n L xs K S 64 189 217 (nI p)) := by
  obtain ⟨⟨m, wd, o, st, hW⟩, hP, hG, hH, hO, hHV, hD, ⟨Lt, ht⟩, hf, hs, hw⟩ := id h
  obtain ⟨r, S1, S', m', wd', o', st', e1, e2, w', g, f⟩ := op_restore (n := n) (by omega) hW hP (xs (p + 1))
  have hB := hW.1.1
  obtain ⟨v1, v2, v3⟩ := h.vl
  have e6 : nI p + (6 : Int32) = nI (p + 6) := nI_add p 6
  have i1 : rv_ix L (nI p + (1 : Int32)) = some (p + 1) := ixp (k := 1) (by omega) hL
  have z : rv_same S S1 := (metX12_restore n S 64 (xs (p + 1)) _ _ e1).sh rfl
  have c1 := ckS z.1 (rc_189 hB)
  refine ⟨S', ⟨⟨m', wd', o', st', w'⟩, g, hG.f f rfl rfl rfl rfl, hH.f f rfl rfl rfl rfl, hO.f f rfl rfl rfl rfl, hHV.f f rfl rfl rfl rfl, hD.f f rfl rfl rfl, ⟨Lt, tp_f ht f rfl rfl rfl rfl⟩, fl_f hf f rfl rfl, sh_f hs f.1, w_f hw f rfl⟩, ?_⟩
  simp only [cL_law_1786, v1, v2, v3, i1, Option.bind_some, rc_64 hB, rc_189 hB, c1, e1, e2, bp_s, eq_self, if_true, rv_lt_eq, e6]
theorem st_count (hn : 600000 ≤ n) (hL : L ≤ 3072) (hp : p + 6 ≤ L) (hi : i ≤ 1000) (h : Iv i S) : Go i p K (cL_law_1811 n L xs K S 64 189 217 (nI p)) := by
  obtain ⟨⟨m, wd, o, st, hW⟩, hP, hG, hH, hO, hHV, hD, ⟨Lt, ht⟩, hf, hs, hw⟩ := id h
  obtain ⟨r, S', e1, e2, q⟩ := op_count (n := n) (by omega) hW.1 (ht.2.1.trans ht.2.2.1.symm) (xs (p + 1))
  have hB := hW.1.1
  obtain ⟨v1, v2, v3⟩ := h.vl
  have e6 : nI p + (6 : Int32) = nI (p + 6) := nI_add p 6
  have i1 : rv_ix L (nI p + (1 : Int32)) = some (p + 1) := ixp (k := 1) (by omega) hL
  refine ⟨S', h.q hW q rfl, ?_⟩
  simp only [cL_law_1811, v1, v2, v3, i1, Option.bind_some, rc_64 hB, rc_189 hB, e1, e2, bp_s, eq_self, if_true, rv_lt_eq, e6]
end
