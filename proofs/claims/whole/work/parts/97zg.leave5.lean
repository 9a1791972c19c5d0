/-! EVER: one left out, whole -/
section
variable {n : Nat} {S : rvS} {m : Nat → Nat} {s0 : St} {wd : Nat → List Nat}
theorem m_leaveOut (hn : 50 ≤ n) (hB : rv_B S) (hM : MR S m) (hk : okm m) (hl0 : s0.2.length ≤ vN m) {c : Cf} (hb : BI m s0 c) (hcap : c.1 ≤ 255640) (hQ : RQ S c) {P : List St} {s : St} (hs : okS m s) (hsP : s ∉ P) (hl : s.2.length ≤ vN m) {x : KW} (hE : EWR S c x) (h : MI m c P s [] x) : ∃ S', fnX13_leaveOut n S 189 (nI (cd s.1 s.2)) (nI x.2.length) = some (nI ((cand m s).foldl (lo1 m c s.1) x).2.length, S') ∧ rvf LD S S' ∧ EWR S' c ((cand m s).foldl (lo1 m c s.1) x) := by
  obtain ⟨hp, hc, -⟩ := id hk
  have h24 := hp.1
  have h3 := hc.2.1
  obtain ⟨S4, e4, f4, H4⟩ := m_uncode (n := n) (by omega) hB hp hs.1 hs.2
  have hB4 := f4.B hB
  have hM4 := hM.f f4 rfl
  have hQ4 := hQ.f f4 rfl rfl rfl
  have hE4 := hE.f f4 rfl rfl
  obtain ⟨g0, g1, g2⟩ := id H4
  have hN : S4.2.1 191 3 = nI (vN m) := hM4 3 (by decide)
  have r24 := rf_of hB4 (show (189, 24, 199) ∈ rv_rf0 by decide)
  have r14 := rf_of hB4 (show (189, 14, 191) ∈ rv_rf0 by decide)
  have hlen := MI_len hb h
  by_cases c0 : vN m = 0
  · have ec : (cand m s).foldl (lo1 m c s.1) x = Fl m c s.1 (fun z => (z, [])) x (vW m) := by
      unfold cand
      rw [if_pos c0]
      rfl
    obtain ⟨S5, e5, f5, E5⟩ := m_bare (n := n) hn hk hl0 hb hcap hs.1 hsP hl c0 h (nI 0) (vW m) 0 (n - vW m - 1) S4 (by omega) hB4 hM4 hQ4 hE4
    rw [show n - vW m - 1 + vW m + 1 = n by omega] at e5
    have e5 : cX13_leaveOutBare_6 n n S4 189 (nI s.1) (nI x.2.length) (nI 0) = _ := e5
    refine ⟨S5, ?_, (f4.mono rfl).tr f5, by rw [ec]; exact E5⟩
    rw [ec, fnX13_leaveOut, z0]
    repeat (first | (conv => (lhs; arg 1; simp (disch := first | assumption | omega) only [tk_gI, tk_gL, tk_gR, tk_pI, tk_pL, rv_aI, rv_aL, rv_aR, rv_uI, rv_uL, rv_uB, rv_uZ, pu_ckI, pu_ckL, pu_lnI, pu_lnL, tk_rI, tk_rL, Option.bind_some, Option.map_some, rv_lt, tk_ix, z0, z1, z2, z3, z4, z5, z6, z7, z8, z9, z10, z11, z12, z13, z15, z16, z17, z18, z20, z21, z23, z24, z25, z31, z32, z39, z40, z41, z46, z48, z50, z57, z59, z60, z61, z62, z63, z64, z97, z98, z99, z100, z101, z102, z103, z104, z105, z106, z107, z108, z109, z110, z111, z112, z113, z114, z115, z116, z117, z118, z119, z120, z121, z122, z128, z132, z200, z240, z255, z372, z390625, z400, z420, z421, z422, z662, z900, z940, z999, z1000, z1024, z2000, z5860, z10000, z12345, z15625, z266240, z1048575, z1064960, z1103515245, z_m1, rc_189 hB, e4, rc_189 hB4, r24, rn_199 hB4, g0, g1, r14, rn_191 hB4, hN])); first | rw [Option.bind_some] | rw [bp_s] | rw [if_true] | rw [if_false] | rw [rv_lt_eq] | rw [if_pos (by omega)] | rw [if_neg (by omega)])
    rw [c0, if_pos rfl]
    repeat (first | (conv => (lhs; arg 1; simp (disch := first | assumption | omega) only [tk_gI, tk_gL, tk_gR, tk_pI, tk_pL, rv_aI, rv_aL, rv_aR, rv_uI, rv_uL, rv_uB, rv_uZ, pu_ckI, pu_ckL, pu_lnI, pu_lnL, tk_rI, tk_rL, Option.bind_some, Option.map_some, rv_lt, tk_ix, rc_189 hB4, fnX13_leaveOutBare])); first | rw [Option.bind_some] | rw [bp_s] | rw [if_true] | rw [if_false] | rw [rv_lt_eq] | rw [if_pos (by omega)] | rw [if_neg (by omega)])
    rw [fnX13_leaveOutBare, z0, e5, bp_s]
  · match hsr : s.2, hl with
    | [], hl =>
      have ec : (cand m s).foldl (lo1 m c s.1) x = x := by
        unfold cand
        rw [if_neg c0, hsr]
        rfl
      refine ⟨S4, ?_, f4.mono rfl, by rw [ec]; exact hE4⟩
      rw [hsr] at g1 e4
      rw [ec, fnX13_leaveOut]
      repeat (first | (conv => (lhs; arg 1; simp (disch := first | assumption | omega) only [tk_gI, tk_gL, tk_gR, tk_pI, tk_pL, rv_aI, rv_aL, rv_aR, rv_uI, rv_uL, rv_uB, rv_uZ, pu_ckI, pu_ckL, pu_lnI, pu_lnL, tk_rI, tk_rL, Option.bind_some, Option.map_some, rv_lt, tk_ix, z0, z1, z2, z3, z4, z5, z6, z7, z8, z9, z10, z11, z12, z13, z15, z16, z17, z18, z20, z21, z23, z24, z25, z31, z32, z39, z40, z41, z46, z48, z50, z57, z59, z60, z61, z62, z63, z64, z97, z98, z99, z100, z101, z102, z103, z104, z105, z106, z107, z108, z109, z110, z111, z112, z113, z114, z115, z116, z117, z118, z119, z120, z121, z122, z128, z132, z200, z240, z255, z372, z390625, z400, z420, z421, z422, z662, z900, z940, z999, z1000, z1024, z2000, z5860, z10000, z12345, z15625, z266240, z1048575, z1064960, z1103515245, z_m1, rc_189 hB, e4, rc_189 hB4, r24, rn_199 hB4, g0, g1, r14, rn_191 hB4, hN])); first | rw [Option.bind_some] | rw [bp_s] | rw [if_true] | rw [if_false] | rw [rv_lt_eq] | rw [if_pos (by omega)] | rw [if_neg (by omega)])
      rw [z0, if_neg (show ¬ nI (vN m) = nI 0 by rw [n_eq (by omega) (by decide)]; exact c0), if_pos (show nI ([] : List Nat).length = nI 0 from rfl)]
    | b :: r, hl =>
      have hl' : r.length + 1 ≤ vN m := hl
      rw [hsr] at g1 g2 e4
      have gb : S4.2.1 199 2 = nI b := g2 0 b rfl
      have hA : ∀ y, r[0]? = some y → S4.2.1 199 3 = nI y := fun y hy => g2 1 y hy
      have hBB : ∀ y, r[1]? = some y → S4.2.1 199 4 = nI y := fun y hy => g2 2 y hy
      have hsl := hs.2
      rw [hsr] at hsl
      have hop : okS m ((b, r) : St) := ⟨hsl.2 b List.mem_cons_self, by have := hsl.1; show r.length ≤ 3; have : r.length + 1 ≤ 3 := this; omega, fun z hz => hsl.2 z (List.mem_cons_of_mem _ hz)⟩
      have hcm : ((b, r) : St) ∈ cand m s := by
        unfold cand
        rw [if_neg c0, hsr]
        exact List.mem_cons_self
      have hls : s.2.length ≤ vN m := by rw [hsr]; exact hl
      have hx := cand_nx hls hcm
      have hpos := MI_pos h24 hs.1 hsP h (L := []) (p := (b, r)) List.not_mem_nil hx
      have m1 := MI_step hs.1 hsP h (L := []) (p := (b, r)) List.not_mem_nil hx
      rw [List.nil_append] at m1
      have nb : ¬ nI (b :: r).length = nI 0 := by
        show ¬ nI (r.length + 1) = nI 0
        rw [n_eq (by omega) (by decide)]; omega
      have pre : ∀ R, (if nI (vN m) ≤ nI (r.length + 1) then cX13_leaveOut_90 n n S4 189 (nI x.2.length) (nI s.1) (nI (r.length + 1)) (nI b) (S4.2.1 199 3) (S4.2.1 199 4) iM else cX13_leaveOut_90 n n S4 189 (nI x.2.length) (nI s.1) (nI (r.length + 1)) (nI b) (S4.2.1 199 3) (S4.2.1 199 4) (nI 0)) = R → fnX13_leaveOut n S 189 (nI (cd s.1 (b :: r))) (nI x.2.length) = R := fun R hR => by
        rw [fnX13_leaveOut]
        repeat (first | (conv => (lhs; arg 1; simp (disch := first | assumption | omega) only [tk_gI, tk_gL, tk_gR, tk_pI, tk_pL, rv_aI, rv_aL, rv_aR, rv_uI, rv_uL, rv_uB, rv_uZ, pu_ckI, pu_ckL, pu_lnI, pu_lnL, tk_rI, tk_rL, Option.bind_some, Option.map_some, rv_lt, tk_ix, z0, z1, z2, z3, z4, z5, z6, z7, z8, z9, z10, z11, z12, z13, z15, z16, z17, z18, z20, z21, z23, z24, z25, z31, z32, z39, z40, z41, z46, z48, z50, z57, z59, z60, z61, z62, z63, z64, z97, z98, z99, z100, z101, z102, z103, z104, z105, z106, z107, z108, z109, z110, z111, z112, z113, z114, z115, z116, z117, z118, z119, z120, z121, z122, z128, z132, z200, z240, z255, z372, z390625, z400, z420, z421, z422, z662, z900, z940, z999, z1000, z1024, z2000, z5860, z10000, z12345, z15625, z266240, z1048575, z1064960, z1103515245, z_m1, rc_189 hB, e4, rc_189 hB4, r24, rn_199 hB4, g0, g1, r14, rn_191 hB4, hN])); first | rw [Option.bind_some] | rw [bp_s] | rw [if_true] | rw [if_false] | rw [rv_lt_eq] | rw [if_pos (by omega)] | rw [if_neg (by omega)])
        rw [z0, if_neg (show ¬ nI (vN m) = nI 0 by rw [n_eq (by omega) (by decide)]; exact c0), if_neg nb]
        repeat (first | (conv => (lhs; arg 1; simp (disch := first | assumption | omega) only [tk_gI, tk_gL, tk_gR, tk_pI, tk_pL, rv_aI, rv_aL, rv_aR, rv_uI, rv_uL, rv_uB, rv_uZ, pu_ckI, pu_ckL, pu_lnI, pu_lnL, tk_rI, tk_rL, Option.bind_some, Option.map_some, rv_lt, tk_ix, z0, z1, z2, z3, z4, z5, z6, z7, z8, z9, z10, z11, z12, z13, z15, z16, z17, z18, z20, z21, z23, z24, z25, z31, z32, z39, z40, z41, z46, z48, z50, z57, z59, z60, z61, z62, z63, z64, z97, z98, z99, z100, z101, z102, z103, z104, z105, z106, z107, z108, z109, z110, z111, z112, z113, z114, z115, z116, z117, z118, z119, z120, z121, z122, z128, z132, z200, z240, z255, z372, z390625, z400, z420, z421, z422, z662, z900, z940, z999, z1000, z1024, z2000, z5860, z10000, z12345, z15625, z266240, z1048575, z1064960, z1103515245, z_m1, rc_189 hB4, r24, rn_199 hB4, gb, r14, rn_191 hB4, hN])); first | rw [Option.bind_some] | rw [bp_s] | rw [if_true] | rw [if_false] | rw [rv_lt_eq] | rw [if_pos (by omega)] | rw [if_neg (by omega)])
        exact hR
      by_cases cf : vN m ≤ r.length + 1
      · have hfull : r.length + 1 = vN m := by omega
        have ec : (cand m s).foldl (lo1 m c s.1) x = Fl m c s.1 (fun z => (b, r ++ [z])) (lo1 m c s.1 x (b, r)) (vW m) := by
          unfold cand
          rw [if_neg c0, hsr]
          show List.foldl (lo1 m c s.1) x ((b, r) :: (if r.length + 1 < vN m then [] else _)) = _
          rw [if_neg (by omega)]
          rfl
        obtain ⟨S5, e5, f5, E5⟩ := m_x90 (n := n) hn hB4 hM4 hk hl0 hb hcap hQ4 hE4 hlen (o := s.1) (b := b) (r := r) (by omega) hs.1 hA hBB (fun a0 x3 x4 x5 x6 x7 x8 x9 S => cX13_leaveOut_90 n (n - 1) S a0 x3 x4 x5 x6 x7 x8 x9) (x9 := iM) (t0 := iM) (t1 := nI (vW m)) (by rw [z_leM (by omega)]; exact id) hop hpos (Or.inl ⟨rfl, Or.inl (by decide)⟩)
        have hB5 := f5.B hB4
        obtain ⟨S6, e6, f6, E6⟩ := m_full (n := n) hn hk hl0 hb hcap hs hsP hls hsr hfull hA hBB m1 (vW m) 0 (n - vW m - 2) S5 (by omega) hB5 (hM4.f f5 rfl) (hQ4.f f5 rfl rfl rfl) E5
        rw [show n - vW m - 2 + vW m + 1 = n - 1 by omega] at e6
        refine ⟨S6, pre _ ?_, (f4.mono rfl).tr (f5.tr f6), by rw [ec]; exact E6⟩
        rw [if_pos (show nI (vN m) ≤ nI (r.length + 1) by rw [n_le (by omega) (by omega)]; exact cf), ec]
        have l90 := m_len90 (n := n) hB4 hM4 (n - 1) (nI x.2.length) (nI s.1) (nI b) (S4.2.1 199 3) (S4.2.1 199 4) iM (N1 := r.length + 1) (by omega) h3
        rw [show n - 1 + 1 = n by omega, if_pos cf] at l90
        rw [l90, e5]
        exact e6
      · have ec : (cand m s).foldl (lo1 m c s.1) x = lo1 m c s.1 x (b, r) := by
          unfold cand
          rw [if_neg c0, hsr]
          show List.foldl (lo1 m c s.1) x ((b, r) :: (if r.length + 1 < vN m then [] else _)) = _
          rw [if_pos (by omega)]
          rfl
        obtain ⟨S5, e5, f5, E5⟩ := m_x90 (n := n) hn hB4 hM4 hk hl0 hb hcap hQ4 hE4 hlen (o := s.1) (b := b) (r := r) (by omega) hs.1 hA hBB (fun a0 x3 x4 x5 x6 x7 x8 x9 S => cX13_leaveOut_90 n (n - 1) S a0 x3 x4 x5 x6 x7 x8 x9) (x9 := nI 0) (t0 := nI 0) (t1 := nI 1) (by decide) hop hpos (Or.inl ⟨rfl, Or.inr (by omega)⟩)
        have hB5 := f5.B hB4
        refine ⟨S5, pre _ ?_, (f4.mono rfl).tr f5, by rw [ec]; exact E5⟩
        rw [if_neg (show ¬ nI (vN m) ≤ nI (r.length + 1) by rw [n_le (by omega) (by omega)]; exact cf), ec]
        have l90 := m_len90 (n := n) hB4 hM4 (n - 1) (nI x.2.length) (nI s.1) (nI b) (S4.2.1 199 3) (S4.2.1 199 4) (nI 0) (N1 := r.length + 1) (by omega) h3
        rw [show n - 1 + 1 = n by omega, if_neg cf] at l90
        have l91 := m_len90 (n := n) hB5 (hM4.f f5 rfl) (n - 2) (nI (lo1 m c s.1 x (b, r)).2.length) (nI s.1) (nI b) (S4.2.1 199 3) (S4.2.1 199 4) (nI 0 + 1) (N1 := r.length + 1) (by omega) h3
        rw [show n - 2 + 1 = n - 1 by omega, if_neg cf] at l91
        rw [l90, e5]
        refine l91.trans ?_
        rw [cX13_leaveOut_111, if_pos (by decide)]
end
