/-! EVER: the reference, whole -/
section
variable {n : Nat} {S : rvS} {m : Nat → Nat} {s0 : St} {wd : Nat → List Nat}
theorem m_e49 (hn : 50 ≤ n) (hk : okm m) {c : Cf} (hb : BI m s0 c) (hcap : c.1 ≤ 255640) {i : Nat} (hi : i < c.1) (K : Nat → Int32 → Int32 → Int32 → rvS → Option (Int32 × rvS)) (x2 x3 : Int32) : ∀ k y q (S : rvS), y + k = vW m → rv_B S → MR S m → RQ S c → ∃ S', cX13_ever_49 n K (q + k + 1) S 189 x2 x3 (nI i) (nI (fb_ct (fun w => decide (wy m (c.2.1 i).1 (c.2.1 i).2 w = 0)) y)) (nI y) = cX13_ever_87 n K S' 189 x2 x3 (nI i) (nI (fb_ct (fun w => decide (wy m (c.2.1 i).1 (c.2.1 i).2 w = 0)) (vW m))) ∧ rvf [199] S S' := by
  obtain ⟨hp, hc, -⟩ := id hk
  have h24 := hp.1
  obtain ⟨ho, hl⟩ := (hb.2.2.2.1 i hi).1
  intro k
  induction k with
  | zero =>
    intro y q S hy hB hM hQ
    have e : y = vW m := by omega
    subst e
    refine ⟨S, ?_, rvf.rf _ _⟩
    rw [show q + 0 + 1 = q + 1 by omega, cX13_ever_49, rc_189 hB, Option.bind_some, m_whos hB hM, Option.bind_some, if_pos (by rw [n_le (by omega) (by omega)]; omega)]
  | succ k ih =>
    intro y q S hy hB hM hQ
    have hyW : y < vW m := by omega
    have q206 := hQ.2.1 i hi
    have r206 := rf_of hB (show (189, 32, 206) ∈ rv_rf0 by decide)
    obtain ⟨S1, e1, f1, H1⟩ := m_uncode (n := n) (by omega) hB hp ho hl
    have hB1 := f1.B hB
    have hM1 := hM.f f1 rfl
    have kw := m_whyNot (n := n) (by omega) hB1 hM1 hp H1 ho hl hyW
    have wl := wy_le m (c.2.1 i).1 (c.2.1 i).2 y
    obtain ⟨S2, e2, f2⟩ := ih (y + 1) q S1 (by omega) hB1 hM1 (hQ.f f1 rfl rfl rfl)
    have ny : ¬ nI (vW m) ≤ nI y := by rw [n_le (by omega) (by omega)]; omega
    refine ⟨S2, ?_, f1.tr f2⟩
    rw [← e2, show q + (k + 1) + 1 = q + k + 1 + 1 by omega, cX13_ever_49, rc_189 hB, Option.bind_some, m_whos hB hM, Option.bind_some, if_neg ny]
    repeat (first | (conv => (lhs; arg 1; simp (disch := first | assumption | omega) only [tk_gI, tk_gL, tk_gR, tk_pI, tk_pL, rv_aI, rv_aL, rv_aR, rv_uI, rv_uL, rv_uB, rv_uZ, pu_ckI, pu_ckL, pu_lnI, pu_lnL, tk_rI, tk_rL, Option.bind_some, Option.map_some, rv_lt, tk_ix, rc_189 hB, r206, rn_206 hB, q206, e1, rc_189 hB1, kw])); first | rw [Option.bind_some] | rw [bp_s] | rw [if_true] | rw [if_false] | rw [rv_lt_eq] | rw [if_pos (by omega)] | rw [if_neg (by omega)])
    rw [fb_ct_succ]
    by_cases g : wy m (c.2.1 i).1 (c.2.1 i).2 y = 0
    · rw [if_pos (show nI (wy m (c.2.1 i).1 (c.2.1 i).2 y) = (0 : Int32) by rw [g]; rfl), decide_eq_true g, if_pos rfl, z1, nI_add, nI_add]
    · rw [if_neg (show ¬ nI (wy m (c.2.1 i).1 (c.2.1 i).2 y) = (0 : Int32) by rw [z0, n_eq (by omega) (by decide)]; exact g), decide_eq_false g, if_neg (by decide), z1, nI_add]
      rfl
theorem nfo_nil (p : St) : nfo m [] p = fb_ct (fun w => decide (wy m p.1 p.2 w = 0)) (vW m) := fb_ct_cong fun k _ => by
  rw [decide_eq_false (show ¬ nx m p k ∈ ([] : List St) from List.not_mem_nil), Bool.not_false, Bool.and_true]
theorem m_e37 (hn : 50 ≤ n) (hk : okm m) {c : Cf} (hb : BI m s0 c) (hcap : c.1 ≤ 255640) : ∀ k i q (S : rvS), i + k = c.1 → rv_B S → MR S m → RQ S c → (∀ j, j < i → S.2.1 207 (cQ c j) = nI (nfo m [] (c.2.1 j))) → ∃ S', cX13_ever_37 n (q + k + 1) S 189 (nI c.1) (nI 0) (nI i) = cX13_ever_110 n n S' 189 (nI c.1) (nI 0) (nI 0) ∧ rvf [199, 207] S S' ∧ ∀ j, j < c.1 → S'.2.1 207 (cQ c j) = nI (nfo m [] (c.2.1 j)) := by
  obtain ⟨hp, hc, -⟩ := id hk
  have h24 := hp.1
  intro k
  induction k with
  | zero =>
    intro i q S hi hB hM hQ hE
    have e : i = c.1 := by omega
    subst e
    refine ⟨S, ?_, rvf.rf _ _, hE⟩
    rw [show q + 0 + 1 = q + 1 by omega, cX13_ever_37, if_pos (by rw [n_le (by omega) (by omega)]; omega), z0]
  | succ k ih =>
    intro i q S hi hB hM hQ hE
    have hic : i < c.1 := by omega
    have lt := cQ_lt hp hb hic
    obtain ⟨S1, e1, f1⟩ := m_e49 (n := n) hn hk hb hcap hic (fun a0 x2 x3 x4 S => cX13_ever_37 n (q + k + 1) S a0 x2 x3 x4) (nI c.1) (nI 0) (vW m) 0 (n - vW m - 1) S (by omega) hB hM hQ
    rw [show n - vW m - 1 + vW m + 1 = n by omega] at e1
    have hB1 := f1.B hB
    have q206 := (hQ.f f1 rfl rfl rfl).2.1 i hic
    have r206 := rf_of hB1 (show (189, 32, 206) ∈ rv_rf0 by decide)
    have r207 := rf_of hB1 (show (189, 33, 207) ∈ rv_rf0 by decide)
    obtain ⟨S2, eS2⟩ : ∃ S2, S2 = rv_sI S1 207 (cQ c i) (nI (nfo m [] (c.2.1 i))) := ⟨_, rfl⟩
    have f2 : rvf [207] S1 S2 := by rw [eS2]; exact (rvf.rf _ _).w rfl rfl
    have f12 : rvf [199, 207] S S2 := (f1.mono rfl).tr (f2.mono rfl)
    obtain ⟨S3, e3, f3, g3⟩ := ih (i + 1) q S2 (by omega) (f12.B hB) (hM.f f12 rfl) (hQ.f f12 rfl rfl rfl) (fun j hj => by
      by_cases e : j = i
      · rw [e, eS2, rv_sI_eq]
      · have ne : cQ c j ≠ cQ c i := fun z => by
          have := cQ_inj hp (hb.2.2.2.1 j (by omega)).1 (hb.2.2.2.1 i hic).1 z
          exact e (hb.2.2.2.2.1 j i (by omega) hic this)
        rw [eS2, rv_sI_k _ _ ne, f1.row rfl rfl]
        exact hE j (by omega))
    refine ⟨S3, ?_, f12.tr f3, g3⟩
    rw [show q + (k + 1) + 1 = q + k + 1 + 1 by omega, cX13_ever_37, if_neg (by rw [n_le (by omega) (by omega)]; omega), z0]
    refine e1.trans ?_
    rw [cX13_ever_87, ← nfo_nil]
    repeat (first | (conv => (lhs; arg 1; simp (disch := first | assumption | omega) only [tk_gI, tk_gL, tk_gR, tk_pI, tk_pL, rv_aI, rv_aL, rv_aR, rv_uI, rv_uL, rv_uB, rv_uZ, pu_ckI, pu_ckL, pu_lnI, pu_lnL, tk_rI, tk_rL, Option.bind_some, Option.map_some, rv_lt, tk_ix, rc_189 hB1, r206, r207, rn_206 hB1, rn_207 hB1, q206, ← eS2])); first | rw [Option.bind_some] | rw [bp_s] | rw [if_true] | rw [if_false] | rw [rv_lt_eq] | rw [if_pos (by omega)] | rw [if_neg (by omega)])
    rw [z1, nI_add]
    exact e3
theorem m_e110 (hn : 50 ≤ n) (hk : okm m) {c : Cf} (hb : BI m s0 c) (hcap : c.1 ≤ 255640) : ∀ k i q (S : rvS), i + k = c.1 → rv_B S → RQ S c → (∀ j, j < c.1 → S.2.1 207 (cQ c j) = nI (nfo m [] (c.2.1 j))) → (∀ j p, (ends0 m c i)[j]? = some p → S.2.1 200 j = nI (cd p.1 p.2)) → ∃ S', cX13_ever_110 n (q + k + 1) S 189 (nI c.1) (nI (ends0 m c i).length) (nI i) = cX13_ever_153 n n S' 189 (nI c.1) (nI (ends0 m c c.1).length) (nI 0) ∧ rvf [200] S S' ∧ ∀ j p, (ends0 m c c.1)[j]? = some p → S'.2.1 200 j = nI (cd p.1 p.2) := by
  obtain ⟨hp, hc, -⟩ := id hk
  have h24 := hp.1
  intro k
  induction k with
  | zero =>
    intro i q S hi hB hQ h7 hE
    have e : i = c.1 := by omega
    subst e
    refine ⟨S, ?_, rvf.rf _ _, hE⟩
    rw [show q + 0 + 1 = q + 1 by omega, cX13_ever_110, if_pos (by rw [n_le (by omega) (by omega)]; omega), z0]
  | succ k ih =>
    intro i q S hi hB hQ h7 hE
    have hic : i < c.1 := by omega
    have lt := cQ_lt hp hb hic
    have q206 := hQ.2.1 i hic
    have v7 := h7 i hic
    have nl := nfo_le (m := m) (P := []) (c.2.1 i)
    have r206 := rf_of hB (show (189, 32, 206) ∈ rv_rf0 by decide)
    have r207 := rf_of hB (show (189, 33, 207) ∈ rv_rf0 by decide)
    have ni : ¬ nI c.1 ≤ nI i := by rw [n_le (by omega) (by omega)]; omega
    have el : (ends0 m c i).length ≤ c.1 := inC_few hb (ends0_nodup hb i (by omega)) fun p hp => by
      obtain ⟨j, h1, h2, -⟩ := (ends0_mem p i).mp hp
      exact inC_iff.mpr ⟨j, by omega, h2⟩
    by_cases z : nfo m [] (c.2.1 i) = 0
    · have es : ends0 m c (i + 1) = ends0 m c i ++ [c.2.1 i] := by rw [ends0, if_pos z]
      have me := m_end (n := n) hB (j := (ends0 m c i).length) (by omega) (nI (cQ c i))
      obtain ⟨S1, eS1⟩ : ∃ S1, S1 = rv_sI S 200 (ends0 m c i).length (nI (cQ c i)) := ⟨_, rfl⟩
      have f1 : rvf [200] S S1 := by rw [eS1]; exact (rvf.rf _ _).w rfl rfl
      rw [← eS1] at me
      obtain ⟨S2, e2, f2, g2⟩ := ih (i + 1) q S1 (by omega) (f1.B hB) (hQ.f f1 rfl rfl rfl) (fun j hj => (f1.row rfl rfl _).trans (h7 j hj)) (fun j p hj => by
        rw [es] at hj
        by_cases cj : j < (ends0 m c i).length
        · rw [List.getElem?_append_left cj] at hj
          rw [eS1, rv_sI_k _ _ (by omega)]
          exact hE j p hj
        · by_cases ej : j = (ends0 m c i).length
          · rw [ej, List.getElem?_append_right (Nat.le_refl _), Nat.sub_self] at hj
            have : c.2.1 i = p := Option.some.inj hj
            rw [ej, eS1, rv_sI_eq, ← this]
          · rw [List.getElem?_eq_none (by rw [List.length_append]; show _ + 1 ≤ j; omega)] at hj
            exact absurd hj (by simp))
      have esl : (ends0 m c (i + 1)).length = (ends0 m c i).length + 1 := by rw [es, List.length_append]; rfl
      rw [esl] at e2
      refine ⟨S2, ?_, f1.tr f2, g2⟩
      rw [← e2, show q + (k + 1) + 1 = q + k + 1 + 1 by omega, cX13_ever_110, if_neg ni]
      repeat (first | (conv => (lhs; arg 1; simp (disch := first | assumption | omega) only [tk_gI, tk_gL, tk_gR, tk_pI, tk_pL, rv_aI, rv_aL, rv_aR, rv_uI, rv_uL, rv_uB, rv_uZ, pu_ckI, pu_ckL, pu_lnI, pu_lnL, tk_rI, tk_rL, Option.bind_some, Option.map_some, rv_lt, tk_ix, rc_189 hB, r206, r207, rn_206 hB, rn_207 hB, q206, v7])); first | rw [Option.bind_some] | rw [bp_s] | rw [if_true] | rw [if_false] | rw [rv_lt_eq] | rw [if_pos (by omega)] | rw [if_neg (by omega)])
      rw [z, if_pos (show nI 0 = (0 : Int32) from rfl)]
      repeat (first | (conv => (lhs; arg 1; simp (disch := first | assumption | omega) only [tk_gI, tk_gL, tk_gR, tk_pI, tk_pL, rv_aI, rv_aL, rv_aR, rv_uI, rv_uL, rv_uB, rv_uZ, pu_ckI, pu_ckL, pu_lnI, pu_lnL, tk_rI, tk_rL, Option.bind_some, Option.map_some, rv_lt, tk_ix, rc_189 hB, r206, rn_206 hB, q206, me])); first | rw [Option.bind_some] | rw [bp_s] | rw [if_true] | rw [if_false] | rw [rv_lt_eq] | rw [if_pos (by omega)] | rw [if_neg (by omega)])
      rw [z1, nI_add]
    · have es : ends0 m c (i + 1) = ends0 m c i := by rw [ends0, if_neg z]
      obtain ⟨S2, e2, f2, g2⟩ := ih (i + 1) q S (by omega) hB hQ h7 (by rw [es]; exact hE)
      rw [es] at e2
      have nz : ¬ nI (nfo m [] (c.2.1 i)) = (0 : Int32) := by rw [z0, n_eq (by omega) (by decide)]; exact z
      refine ⟨S2, ?_, f2, g2⟩
      rw [← e2, show q + (k + 1) + 1 = q + k + 1 + 1 by omega, cX13_ever_110, if_neg ni]
      repeat (first | (conv => (lhs; arg 1; simp (disch := first | assumption | omega) only [tk_gI, tk_gL, tk_gR, tk_pI, tk_pL, rv_aI, rv_aL, rv_aR, rv_uI, rv_uL, rv_uB, rv_uZ, pu_ckI, pu_ckL, pu_lnI, pu_lnL, tk_rI, tk_rL, Option.bind_some, Option.map_some, rv_lt, tk_ix, rc_189 hB, r206, r207, rn_206 hB, rn_207 hB, q206, v7])); first | rw [Option.bind_some] | rw [bp_s] | rw [if_true] | rw [if_false] | rw [rv_lt_eq] | rw [if_pos (by omega)] | rw [if_neg (by omega)])
      rw [z1, nI_add]
theorem m_e153 (hn : 50 ≤ n) (hk : okm m) (hl0 : s0.2.length ≤ vN m) {c : Cf} (hb : BI m s0 c) (hcap : c.1 ≤ 255640) : ∀ k a q (x : KW) (S : rvS), a + k = c.1 → a ≤ x.2.length → rv_B S → MR S m → RQ S c → EWR S c x → KI m c a x → ∃ (x' : KW) (S' : rvS), cX13_ever_153 n (q + k + 1) S 189 (nI c.1) (nI x.2.length) (nI a) = some (bI (decide (x'.2.length < c.1)), S') ∧ rvf LD S S' ∧ KI m c x'.2.length x' := by
  obtain ⟨hp, hc, -⟩ := id hk
  have stop : ∀ q (x : KW) (S : rvS), KI m c x.2.length x → ∃ (x' : KW) (S' : rvS), cX13_ever_153 n (q + 1) S 189 (nI c.1) (nI x.2.length) (nI x.2.length) = some (bI (decide (x'.2.length < c.1)), S') ∧ rvf LD S S' ∧ KI m c x'.2.length x' := fun q x S h => by
    have hlen := KI_len hb h
    refine ⟨x, S, ?_, rvf.rf _ _, h⟩
    rw [cX13_ever_153, if_pos (by rw [n_le (by omega) (by omega)]; omega), cX13_ever_178]
    by_cases c1 : x.2.length < c.1
    · rw [decide_eq_true c1, if_neg (by rw [n_le (by omega) (by omega)]; omega)]; rfl
    · rw [decide_eq_false c1, if_pos (by rw [n_le (by omega) (by omega)]; omega)]; rfl
  intro k
  induction k with
  | zero =>
    intro a q x S ha hax hB hM hQ hE h
    have hlen := KI_len hb h
    have e : a = x.2.length := by omega
    subst e
    exact stop (q + 0) x S h
  | succ k ih =>
    intro a q x S ha hax hB hM hQ hE h
    have hlen := KI_len hb h
    by_cases e : a = x.2.length
    · subst e
      exact stop (q + (k + 1)) x S h
    · have hlt : a < x.2.length := by omega
      obtain ⟨s, hs⟩ : ∃ s, x.2[a]? = some s := ⟨x.2[a], List.getElem?_eq_getElem hlt⟩
      have hsE : s ∈ x.2 := List.mem_of_getElem? hs
      have ok := inC_ok hb hl0 ((h.2.1 s).mp hsE).1
      have r200 := hE.2 a s hs
      have tk : x.2.take (a + 1) = x.2.take a ++ [s] := by rw [List.take_succ, hs]; rfl
      have hsP : s ∉ x.2.take a := fun z => by
        have nd : (x.2.take (a + 1)).Nodup := List.Sublist.nodup (List.take_sublist _ _) h.2.2.1
        rw [tk] at nd
        exact (List.nodup_append.mp nd).2.2 s z s (by simp) rfl
      have m0 : MI m c (x.2.take a) s [] x := by
        obtain ⟨h1, h2, h3, h4⟩ := h
        refine ⟨fun p hp => ?_, h2, h3, h4, fun q hq => ?_⟩
        · rw [h1 p hp, if_neg (fun z => absurd z.1 List.not_mem_nil), Nat.sub_zero]
        · rcases List.mem_append.mp hq with hq | hq
          · exact List.mem_of_mem_take hq
          · rw [List.mem_singleton.mp hq]; exact hsE
      obtain ⟨S1, e1, f1, E1⟩ := m_leaveOut (n := n) hn hB hM hk hl0 hb hcap hQ ok.1 hsP ok.2 hE m0
      have hB1 := f1.B hB
      obtain ⟨X, eX⟩ := fold_ext (m := m) c s.1 (cand m s) x
      obtain ⟨x', S2, e2, f2, h2⟩ := ih (a + 1) q ((cand m s).foldl (lo1 m c s.1) x) S1 (by omega) (by rw [eX, List.length_append]; omega) hB1 (hM.f f1 rfl) (hQ.f f1 rfl rfl rfl) E1 (KI_step hb hl0 h hs)
      refine ⟨x', S2, ?_, f1.tr f2, h2⟩
      rw [← e2, show q + (k + 1) + 1 = q + k + 1 + 1 by omega, cX13_ever_153, if_neg (by rw [n_le (by omega) (by omega)]; omega)]
      repeat (first | (conv => (lhs; arg 1; simp (disch := first | assumption | omega) only [tk_gI, tk_gL, tk_gR, tk_pI, tk_pL, rv_aI, rv_aL, rv_aR, rv_uI, rv_uL, rv_uB, rv_uZ, pu_ckI, pu_ckL, pu_lnI, pu_lnL, tk_rI, tk_rL, Option.bind_some, Option.map_some, rv_lt, tk_ix, rc_189 hB, rf_of hB (show (189, 25, 200) ∈ rv_rf0 by decide), rn_200 hB, r200, e1])); first | rw [Option.bind_some] | rw [bp_s] | rw [if_true] | rw [if_false] | rw [rv_lt_eq] | rw [if_pos (by omega)] | rw [if_neg (by omega)])
      rw [z1, nI_add]
end
