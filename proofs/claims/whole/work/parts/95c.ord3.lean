/-! ORDERS: the class's search -/
section
variable {n : Nat} {S : rvS} {m m' : Nat → Nat}
theorem rvf.mon {D D' : List Nat} {S S' : rvS} (h : rvf D S S') (hd : ∀ d ∈ D, d ∈ D') : rvf D' S S' := ⟨h.1, ⟨h.2.1.1, fun a k ha => h.2.1.2 a k (fun z => ha (hd _ z))⟩, fun a k ha => h.2.2 a k (fun z => ha (hd _ z))⟩
def PLH (n : Nat) (m : Nat → Nat) (N : Nat) (ask : Nat → Nat) (r dd : Nat) : Prop := ∀ pre b S, pre.length + r = N → PLC S m N ask pre → ORB S N ask b → ∃ S', (fGX4_placeNext n dd).2 S 118 67 108 (nI pre.length) (nI (obB N pre)) (nI (pye m (pre.map ask))) = some S' ∧ OF pre.length S S' ∧ ORB S' N ask (CO N (fun p => pye m (p.map ask)) r pre b)
theorem PR_of {S S' : rvS} {p s : Nat} {m : Nat → Nat} (hc : vC m ≤ 40) (h : PR S s m) (g1 : ∀ k, k < 2 → S'.2.1 p k = S.2.1 s k) (g2 : ∀ k, k < 40 → S'.2.1 (p + 1) k = S.2.1 (s + 1) k ∧ S'.2.1 (p + 2) k = S.2.1 (s + 2) k ∧ S'.2.1 (p + 3) k = S.2.1 (s + 3) k) : PR S' p m := by
  obtain ⟨b1, b2, b3, b4, b5⟩ := h
  exact ⟨(g1 0 (by decide)).trans b1, (g1 1 (by decide)).trans b2, fun c h => (g2 c (by omega)).1.trans (b3 c h), fun c h => (g2 c (by omega)).2.1.trans (b4 c h), fun c h => (g2 c (by omega)).2.2.trans (b5 c h)⟩
theorem pb_o {d : Nat} (h : d ≤ 5) : pb (123 + 4 * d) := by
  unfold pb; omega
theorem rf_o {S : rvS} (hB : rv_B S) {d : Nat} (h : d ≤ 5) : S.2.2.2 119 d = some (123 + 4 * d) := by
  have h6 : d = 0 ∨ d = 1 ∨ d = 2 ∨ d = 3 ∨ d = 4 ∨ d = 5 := by omega
  rcases h6 with rfl | rfl | rfl | rfl | rfl | rfl
  · exact rf_of hB (show (119, 0, 123) ∈ rv_rf0 by decide)
  · exact rf_of hB (show (119, 1, 127) ∈ rv_rf0 by decide)
  · exact rf_of hB (show (119, 2, 131) ∈ rv_rf0 by decide)
  · exact rf_of hB (show (119, 3, 135) ∈ rv_rf0 by decide)
  · exact rf_of hB (show (119, 4, 139) ∈ rv_rf0 by decide)
  · exact rf_of hB (show (119, 5, 143) ∈ rv_rf0 by decide)
theorem getD_app {pre : List Nat} {i j : Nat} (h : j < pre.length) : (pre ++ [i]).getD j 0 = pre.getD j 0 := by
  rw [List.getD_eq_getElem?_getD, List.getD_eq_getElem?_getD, List.getElem?_append_left h]
theorem getD_last {pre : List Nat} {i : Nat} : (pre ++ [i]).getD pre.length 0 = i := by
  rw [List.getD_eq_getElem?_getD, List.getElem?_append_right (Nat.le_refl _), Nat.sub_self]
  rfl
theorem k_next (hn : 1100 ≤ n) (hk : okm m) {N : Nat} (hN : N ≤ 5) {ask : Nat → Nat} (hask : ∀ i, i < N → ask i < vD m) {r dd : Nat} (ih : PLH n m N ask r dd) {pre : List Nat} {i : Nat} {b : OB} (hlen : pre.length + (r + 1) = N) (hi : i < N) (hP : PLC S m N ask pre) (ht : S.2.1 121 pre.length = nI (ask i)) (hb : ORB S N ask b) : ∃ S', (fGX4_placeNext n (dd + 1)).1 S 118 67 108 (nI pre.length) (nI (obB N (pre ++ [i]))) (nI (pye m (pre.map ask))) = some S' ∧ OF pre.length S S' ∧ ORB S' N ask (CO N (fun p => pye m (p.map ask)) r (pre ++ [i]) b) := by
  obtain ⟨hB, hF, hD, h4, h120, hPR, h121, hx⟩ := id hP
  have hl5 : pre.length ≤ 4 := by omega
  have hsm : SM m (pyl m (pre.map ask)) := pyl_SM hk _ (fun k hk => by
    obtain ⟨x, hx1, rfl⟩ := List.mem_map.mp hk
    exact hask x (hx x hx1))
  obtain ⟨m', em'⟩ : ∃ m', m' = pyl m (pre.map ask) := ⟨_, rfl⟩
  rw [← em'] at hPR hsm
  have c40 : vC m' ≤ 40 := hsm.1.2.1.1
  obtain ⟨d, ed⟩ : ∃ d, d = pre.length := ⟨_, rfl⟩
  rw [← ed] at hPR h121 ht hl5
  obtain ⟨S1, e1, ⟨w1, w2⟩, g1, g2, g3⟩ := k_copyP (n := n) (by omega) hB (pb_o (show d + 1 ≤ 5 by omega)) (pb_o (show d ≤ 5 by omega)) (by omega)
  have f1 : rvf DO S S1 := ⟨w1, rvr.rf (by rw [w2]), fun a k ha => ⟨g3 a (by
    refine Classical.byContradiction fun z => ha ?_
    rw [lc_row (rwb_p (by omega) (by omega))]
    unfold DO
    simp only [List.mem_cons, List.not_mem_nil, or_false]
    omega) k, by rw [w2]⟩⟩
  have o1 : OF d S S1 := ⟨f1, fun a h1 h2 h3 k => g3 a (by omega) k, fun j _ => g3 121 (by omega) j⟩
  have hP1 : PR S1 (123 + 4 * (d + 1)) m' := PR_of c40 hPR g1 g2
  have hB1 := f1.B hB
  have hPl1 := PLC_f hP (by omega) (by rw [← ed]; exact o1)
  obtain ⟨-, hF1, hD1, h41, h1201, -, h1211, -⟩ := hPl1
  have ht1 : S1.2.1 121 d = nI (ask i) := (g3 121 (by omega) d).trans ht
  have hi12 := hk.2.2.1
  have hai := hask i hi
  have evs : pye m ((pre ++ [i]).map ask) = pye m (pre.map ask) + pyo m' (ask i) := by
    rw [List.map_append, em']
    exact pye_app _ _ _
  have mos : pyl m ((pre ++ [i]).map ask) = pyd m' (ask i) := by
    rw [List.map_append, em']
    exact pyl_app _ _ _
  have evle : pye m (pre.map ask) ≤ 4 := by
    have := pye_le (pre.map ask) m
    rw [List.length_map, ← ed] at this
    omega
  have hr0 := rf_o hB (show d ≤ 5 by omega)
  have hr1 := rf_o hB (show d + 1 ≤ 5 by omega)
  have q0 := rf_of hB (show (118, 0, 119) ∈ rv_rf0 by decide)
  have q2 := rf_of hB1 (show (118, 2, 121) ∈ rv_rf0 by decide)
  have hPS1 := PS_of hB (pb_o (show d + 1 ≤ 5 by omega))
  have hlen2 : (pre ++ [i]).length = d + 1 := by rw [List.length_append, List.length_singleton, ed]
  have fin : ∀ S2 x, rvf [108, 109, 123 + 4 * (d + 1) + 2, 123 + 4 * (d + 1) + 3] S1 S2 → PR S2 (123 + 4 * (d + 1)) (pyd m' (ask i)) → x = pye m ((pre ++ [i]).map ask) → ∃ S', (rv_ck S2 3 118).bind (fun _ => ((fGX4_placeNext n dd).2 S2 118 67 108 (nI (d + 1)) (nI (obB N (pre ++ [i]))) (nI x)).bind fun S4_ => some S4_) = some S' ∧ OF d S S' ∧ ORB S' N ask (CO N (fun p => pye m (p.map ask)) r (pre ++ [i]) b) := fun S2 x f2 p2 ex => by
    have hB2 := f2.B hB1
    have f2' : rvf DO S1 S2 := f2.mon (fun y hy => by
      unfold DO
      simp only [List.mem_cons, List.not_mem_nil, or_false] at hy ⊢
      omega)
    have nr : ∀ a, 119 ≤ a → a < 189 → a ≠ 123 + 4 * (d + 1) + 2 → a ≠ 123 + 4 * (d + 1) + 3 → ∀ k, S2.2.1 a k = S1.2.1 a k := fun a h1 h2 h3 h4 k => (f2.2.2 a k (by
      rw [lc_row (rwb_p h1 h2)]
      simp only [List.mem_cons, List.not_mem_nil, or_false]
      omega)).1
    have o2 : OF d S1 S2 := ⟨f2', fun a h1 h2 h3 k => nr a (by omega) (by omega) (by omega) (by omega) k, fun j _ => nr 121 (by omega) (by omega) (by omega) (by omega) j⟩
    have o12 := o1.tr o2
    have hPl2 := PLC_f hP (by omega) (by rw [← ed]; exact o12)
    obtain ⟨-, hF2, hD2, h42, h1202, -, h1212, -⟩ := hPl2
    have pl : PLC S2 m N ask (pre ++ [i]) := by
      refine ⟨hB2, hF2, hD2, h42, h1202, by rw [hlen2, mos]; exact p2, fun j hj => ?_, fun y hy => ?_⟩
      · rw [hlen2] at hj
        by_cases c : j = d
        · rw [c, nr 121 (by omega) (by omega) (by omega) (by omega), ht1, ed, getD_last]
        · rw [getD_app (by omega)]
          exact h1212 j (by omega)
      · rcases List.mem_append.mp hy with h | h
        · exact hx y h
        · rw [List.mem_singleton.mp h]; exact hi
    have hb2 := ORB_f (ORB_f hb (D := [123 + 4 * (d + 1), 123 + 4 * (d + 1) + 1, 123 + 4 * (d + 1) + 2, 123 + 4 * (d + 1) + 3]) (S' := S1) ⟨w1, rvr.rf (by rw [w2]), fun a k ha => ⟨g3 a (by
        refine Classical.byContradiction fun z => ha ?_
        rw [lc_row (rwb_p (by omega) (by omega))]
        simp only [List.mem_cons, List.not_mem_nil, or_false]
        omega) k, by rw [w2]⟩⟩ (by simp; omega) (by simp; omega)) f2 (by simp; omega) (by simp; omega)
    obtain ⟨S3, e3, o3, b3⟩ := ih (pre ++ [i]) b S2 (by rw [hlen2]; omega) pl hb2
    rw [hlen2] at e3 o3
    refine ⟨S3, ?_, o12.tr (o3.le (by omega)), b3⟩
    rw [rc_118 hB2, Option.bind_some, ex, e3, Option.bind_some]
  rcases k_payDebtp hn hB1 (pb_o (show d + 1 ≤ 5 by omega)) hF1 hD1 hP1 hk hsm hai with ⟨t1, S2, e2, f2⟩ | ⟨t1, S2, e2, f2, p2⟩
  · have er : pyd m' (ask i) = m' := if_neg t1
    have ep : pyo m' (ask i) = 0 := if_neg t1
    have p2 : PR S2 (123 + 4 * (d + 1)) m' := hP1.x (pb_o (by omega)) f2
    obtain ⟨S3, e3, o3, b3⟩ := fin S2 (pye m (pre.map ask)) (f2.mon (fun y hy => by
      simp only [List.mem_cons, List.not_mem_nil, or_false] at hy ⊢
      omega)) (by rw [er]; exact p2) (by rw [evs, ep]; rfl)
    refine ⟨S3, ?_, by rw [← ed]; exact o3, b3⟩
    rw [← e3, ← ed]
    show fbX4_placeNext n _ _ S 118 67 108 (nI d) (nI (obB N (pre ++ [i]))) (nI (pye m (pre.map ask))) = _
    rw [fbX4_placeNext]
    repeat (first | (conv => (lhs; arg 1; simp (disch := first | assumption | omega) only [tk_gI, tk_gL, tk_gR, tk_pI, tk_pL, rv_aI, rv_aL, rv_aR, rv_uI, rv_uL, rv_uB, rv_uZ, pu_ckI, pu_ckL, pu_lnI, pu_lnL, tk_rI, tk_rL, Option.bind_some, Option.map_some, rv_lt, tk_ix, z0, z1, z2, z3, z4, z5, z6, z7, z8, z9, z10, z11, z12, z13, z15, z16, z17, z18, z20, z21, z23, z24, z25, z31, z32, z39, z40, z41, z46, z48, z50, z57, z59, z60, z61, z62, z63, z64, z97, z98, z99, z100, z101, z102, z103, z104, z105, z106, z107, z108, z109, z110, z111, z112, z113, z114, z115, z116, z117, z118, z119, z120, z121, z122, z128, z132, z200, z240, z255, z372, z390625, z400, z420, z421, z422, z662, z900, z940, z999, z1000, z1024, z2000, z5860, z10000, z12345, z15625, z266240, z1048575, z1064960, z1103515245, z_m1, n_le, n_lt, n_eq, n_bit0, n_bit1, n_sbit0, n_shl, z_ltM, z_Mlt, z_leM, z_Mle, z_eqM, z_Meq, bI0, bI1, bI_01, bI_01t, bI_10, bI_10f, if_true, if_false, eq_self, reduceCtorEq, rc_118 hB, q0, rn_119 hB, hr0, hr1, nI_add, hPS1, e1, rc_118 hB1, q2, rn_121 hB1, ht1, rc_108 hB1, e2])); first | rw [Option.bind_some] | rw [bp_s] | rw [if_true] | rw [if_false] | rw [rv_lt_eq] | rw [if_pos (by omega)] | rw [if_neg (by omega)])
    rw [cX4_placeNext_58]
    simp only [z1, nI_add]
  · have er : pyd m' (ask i) = cl (pM m' (ask i)) (ask i) := if_pos t1
    have ep : pyo m' (ask i) = 1 := if_pos t1
    have eC : vC (pM m' (ask i)) = vC m' := mvs_lo _ 1 (by decide)
    have p3 : PR S2 (123 + 4 * (d + 1)) (cl (pM m' (ask i)) (ask i)) := p2.c (by omega) (cl_lo (by decide)) (cl_lo (by decide)) (fun k h1 h2 => cl_lo h2)
    obtain ⟨S3, e3, o3, b3⟩ := fin S2 (pye m (pre.map ask) + 1) f2 (by rw [er]; exact p3) (by rw [evs, ep])
    refine ⟨S3, ?_, by rw [← ed]; exact o3, b3⟩
    rw [← e3, ← ed]
    show fbX4_placeNext n _ _ S 118 67 108 (nI d) (nI (obB N (pre ++ [i]))) (nI (pye m (pre.map ask))) = _
    have pos : ¬ nI (pT m' (ask i)) < nI 0 := nI_pos (by omega)
    rw [fbX4_placeNext]
    repeat (first | (conv => (lhs; arg 1; simp (disch := first | assumption | omega) only [tk_gI, tk_gL, tk_gR, tk_pI, tk_pL, rv_aI, rv_aL, rv_aR, rv_uI, rv_uL, rv_uB, rv_uZ, pu_ckI, pu_ckL, pu_lnI, pu_lnL, tk_rI, tk_rL, Option.bind_some, Option.map_some, rv_lt, tk_ix, z0, z1, z2, z3, z4, z5, z6, z7, z8, z9, z10, z11, z12, z13, z15, z16, z17, z18, z20, z21, z23, z24, z25, z31, z32, z39, z40, z41, z46, z48, z50, z57, z59, z60, z61, z62, z63, z64, z97, z98, z99, z100, z101, z102, z103, z104, z105, z106, z107, z108, z109, z110, z111, z112, z113, z114, z115, z116, z117, z118, z119, z120, z121, z122, z128, z132, z200, z240, z255, z372, z390625, z400, z420, z421, z422, z662, z900, z940, z999, z1000, z1024, z2000, z5860, z10000, z12345, z15625, z266240, z1048575, z1064960, z1103515245, z_m1, n_le, n_lt, n_eq, n_bit0, n_bit1, n_sbit0, n_shl, z_ltM, z_Mlt, z_leM, z_Mle, z_eqM, z_Meq, bI0, bI1, bI_01, bI_01t, bI_10, bI_10f, if_true, if_false, eq_self, reduceCtorEq, rc_118 hB, q0, rn_119 hB, hr0, hr1, nI_add, hPS1, e1, rc_118 hB1, q2, rn_121 hB1, ht1, rc_108 hB1, e2, if_neg pos])); first | rw [Option.bind_some] | rw [bp_s] | rw [if_true] | rw [if_false] | rw [rv_lt_eq] | rw [if_pos (by omega)] | rw [if_neg (by omega)])
    simp only [cX4_placeNext_58, z1, nI_add]
theorem k_place (hn : 1100 ≤ n) (hk : okm m) {N : Nat} (hN : N ≤ 5) {ask : Nat → Nat} (hask : ∀ i, i < N → ask i < vD m) : ∀ r dd, 2 * r < dd → PLH n m N ask r dd := by
  intro r
  induction r with
  | zero =>
    intro dd hd pre b S hlen hP hb
    obtain ⟨dd, rfl⟩ : ∃ d', dd = d' + 1 := ⟨dd - 1, by omega⟩
    have hB := hP.1
    have h4 := hP.2.2.2.1
    have hle := pye_le (pre.map ask) m
    rw [List.length_map] at hle
    obtain ⟨S1, e1, o1, b1⟩ := k_best0 hn hN (by omega) hP hb (v := pye m (pre.map ask)) (by omega)
    refine ⟨S1, ?_, o1, b1⟩
    show fbX4_place n _ _ S 118 67 108 (nI pre.length) (nI (obB N pre)) (nI (pye m (pre.map ask))) = _
    rw [fbX4_place]
    simp (disch := first | assumption | omega) only [cX4_place_13, tk_gI, tk_gL, tk_gR, tk_pI, tk_pL, rv_aI, rv_aL, rv_aR, rv_uI, rv_uL, rv_uB, rv_uZ, pu_ckI, pu_ckL, pu_lnI, pu_lnL, tk_rI, tk_rL, Option.bind_some, Option.map_some, rv_lt, tk_ix, z0, z1, z2, z3, z4, z5, z6, z7, z8, z9, z10, z11, z12, z13, z15, z16, z17, z18, z20, z21, z23, z24, z25, z31, z32, z39, z40, z41, z46, z48, z50, z57, z59, z60, z61, z62, z63, z64, z97, z98, z99, z100, z101, z102, z103, z104, z105, z106, z107, z108, z109, z110, z111, z112, z113, z114, z115, z116, z117, z118, z119, z120, z121, z122, z128, z132, z200, z240, z255, z372, z390625, z400, z420, z421, z422, z662, z900, z940, z999, z1000, z1024, z2000, z5860, z10000, z12345, z15625, z266240, z1048575, z1064960, z1103515245, z_m1, n_le, n_lt, n_eq, n_bit0, n_bit1, n_sbit0, n_shl, z_ltM, z_Mlt, z_leM, z_Mle, z_eqM, z_Meq, bI0, bI1, bI_01, bI_01t, bI_10, bI_10f, if_true, if_false, eq_self, reduceCtorEq, if_pos, if_neg, rc_118 hB, h4, show N ≤ pre.length by omega, e1]
  | succ r ih0 =>
    intro dd hd pre b S hlen hP hb
    obtain ⟨dd, rfl⟩ : ∃ d', dd = d' + 2 := ⟨dd - 2, by omega⟩
    have ih := ih0 dd (by omega)
    have hB := hP.1
    have h4 := hP.2.2.2.1
    have hle := pye_le (pre.map ask) m
    rw [List.length_map] at hle
    have hbl := obB_lt hN pre
    show ∃ S', fbX4_place n (fGX4_placeNext n (dd + 1)).1 (fGX4_placeNext n (dd + 1)).2 S 118 67 108 (nI pre.length) (nI (obB N pre)) (nI (pye m (pre.map ask))) = some S' ∧ _
    have top : fbX4_place n (fGX4_placeNext n (dd + 1)).1 (fGX4_placeNext n (dd + 1)).2 S 118 67 108 (nI pre.length) (nI (obB N pre)) (nI (pye m (pre.map ask))) = cX4_place_23 n (fGX4_placeNext n (dd + 1)).1 (fGX4_placeNext n (dd + 1)).2 n S 118 67 108 (nI pre.length) (nI (obB N pre)) (nI (pye m (pre.map ask))) (nI 0) := by
      rw [fbX4_place]
      simp (disch := first | assumption | omega) only [tk_gI, tk_gL, tk_gR, tk_pI, tk_pL, rv_aI, rv_aL, rv_aR, rv_uI, rv_uL, rv_uB, rv_uZ, pu_ckI, pu_ckL, pu_lnI, pu_lnL, tk_rI, tk_rL, Option.bind_some, Option.map_some, rv_lt, tk_ix, z0, z1, z2, z3, z4, z5, z6, z7, z8, z9, z10, z11, z12, z13, z15, z16, z17, z18, z20, z21, z23, z24, z25, z31, z32, z39, z40, z41, z46, z48, z50, z57, z59, z60, z61, z62, z63, z64, z97, z98, z99, z100, z101, z102, z103, z104, z105, z106, z107, z108, z109, z110, z111, z112, z113, z114, z115, z116, z117, z118, z119, z120, z121, z122, z128, z132, z200, z240, z255, z372, z390625, z400, z420, z421, z422, z662, z900, z940, z999, z1000, z1024, z2000, z5860, z10000, z12345, z15625, z266240, z1048575, z1064960, z1103515245, z_m1, n_le, n_lt, n_eq, n_bit0, n_bit1, n_sbit0, n_shl, z_ltM, z_Mlt, z_leM, z_Mle, z_eqM, z_Meq, bI0, bI1, bI_01, bI_01t, bI_10, bI_10f, if_true, if_false, eq_self, reduceCtorEq, if_pos, if_neg, rc_118 hB, h4, show ¬ N ≤ pre.length by omega, show pre.length < 5 by omega]
    rw [top, CO]
    obtain ⟨g, eg⟩ : ∃ g : OB → Bool, g = (fun c => decide (pye m (pre.map ask) + (r + 1) < c.1)) := ⟨_, rfl⟩
    obtain ⟨F, eF⟩ : ∃ F : List Nat → OB → OB, F = (fun p c => CO N (fun p => pye m (p.map ask)) r p c) := ⟨_, rfl⟩
    rw [← eg, ← eF]
    refine lp (F := fun q (x : rvS × Int32) => cX4_place_23 n (fGX4_placeNext n (dd + 1)).1 (fGX4_placeNext n (dd + 1)).2 q x.1 118 67 108 (nI pre.length) (nI (obB N pre)) (nI (pye m (pre.map ask))) x.2) (fun i x => x.2 = nI i ∧ OF pre.length S x.1 ∧ ORB x.1 N ask (obC g F pre b i)) (fun o => ∃ S', o = some S' ∧ OF pre.length S S' ∧ ORB S' N ask (obC g F pre b N)) N (fun i x q hi hx => Or.inr ?_) (fun x q hx => ?_) (i := 0) (x := (S, nI 0)) (q := n) (Nat.zero_le _) ⟨rfl, OF.rf _ _, hb⟩ (by omega)
    · obtain ⟨S1, x2⟩ := x
      obtain ⟨rfl, o1, b1⟩ := hx
      have o1 : OF pre.length S S1 := o1
      have b1 : ORB S1 N ask (obC g F pre b i) := b1
      have hB1 := o1.1.B hB
      have hP1 := PLC_f hP (by omega) o1
      have h41 := hP1.2.2.2.1
      have bb := obB_bit (pre := pre) hi
      rw [obC]
      have hc := rc_118 hB1
      by_cases c : pre.contains i = true
      · rw [if_pos c]
        refine ⟨(S1, nI (i + 1)), ?_, rfl, o1, b1⟩
        show cX4_place_23 n _ _ (q + 1) S1 118 67 108 (nI pre.length) (nI (obB N pre)) (nI (pye m (pre.map ask))) (nI i) = cX4_place_23 n _ _ q S1 118 67 108 (nI pre.length) (nI (obB N pre)) (nI (pye m (pre.map ask))) (nI (i + 1))
        rw [cX4_place_23]
        simp (disch := first | assumption | omega) only [tk_gI, tk_gL, tk_gR, tk_pI, tk_pL, rv_aI, rv_aL, rv_aR, rv_uI, rv_uL, rv_uB, rv_uZ, pu_ckI, pu_ckL, pu_lnI, pu_lnL, tk_rI, tk_rL, Option.bind_some, Option.map_some, rv_lt, tk_ix, z0, z1, z2, z3, z4, z5, z6, z7, z8, z9, z10, z11, z12, z13, z15, z16, z17, z18, z20, z21, z23, z24, z25, z31, z32, z39, z40, z41, z46, z48, z50, z57, z59, z60, z61, z62, z63, z64, z97, z98, z99, z100, z101, z102, z103, z104, z105, z106, z107, z108, z109, z110, z111, z112, z113, z114, z115, z116, z117, z118, z119, z120, z121, z122, z128, z132, z200, z240, z255, z372, z390625, z400, z420, z421, z422, z662, z900, z940, z999, z1000, z1024, z2000, z5860, z10000, z12345, z15625, z266240, z1048575, z1064960, z1103515245, z_m1, n_le, n_lt, n_eq, n_bit0, n_bit1, n_sbit0, n_shl, z_ltM, z_Mlt, z_leM, z_Mle, z_eqM, z_Meq, bI0, bI1, bI_01, bI_01t, bI_10, bI_10f, if_true, if_false, eq_self, reduceCtorEq, if_pos, if_neg, hc, h41, nI_add, bb, c]
      · rw [if_neg c]
        have c' : pre.contains i = false := by simpa using c
        have b61 := b1.1
        have g6 := b1.2.1
        obtain ⟨v, ev⟩ : ∃ v, v = pye m (pre.map ask) := ⟨_, rfl⟩
        have cmp : ∀ y : Nat, y = v + N - pre.length → (nI y ≤ mI (obC g F pre b i).1) = (g (obC g F pre b i) = true) := fun y hy => by
          rw [le_mI (by omega) (by omega), eg, decide_eq_true_eq, ← ev]
          exact propext ⟨fun z => by omega, fun z => by omega⟩
        by_cases c2 : g (obC g F pre b i) = true
        · rw [if_pos c2]
          refine ⟨(S1, nI (i + 1)), ?_, rfl, o1, b1⟩
          show cX4_place_23 n _ _ (q + 1) S1 118 67 108 (nI pre.length) (nI (obB N pre)) (nI (pye m (pre.map ask))) (nI i) = cX4_place_23 n _ _ q S1 118 67 108 (nI pre.length) (nI (obB N pre)) (nI (pye m (pre.map ask))) (nI (i + 1))
          rw [cX4_place_23, ← ev]
          have y1 : nI (v + N - pre.length) ≤ mI (obC g F pre b i).1 := by rw [cmp _ rfl]; exact c2
          repeat (first | (conv => (lhs; arg 1; simp (disch := first | assumption | omega) only [tk_gI, tk_gL, tk_gR, tk_pI, tk_pL, rv_aI, rv_aL, rv_aR, rv_uI, rv_uL, rv_uB, rv_uZ, pu_ckI, pu_ckL, pu_lnI, pu_lnL, tk_rI, tk_rL, Option.bind_some, Option.map_some, rv_lt, tk_ix, z0, z1, z2, z3, z4, z5, z6, z7, z8, z9, z10, z11, z12, z13, z15, z16, z17, z18, z20, z21, z23, z24, z25, z31, z32, z39, z40, z41, z46, z48, z50, z57, z59, z60, z61, z62, z63, z64, z97, z98, z99, z100, z101, z102, z103, z104, z105, z106, z107, z108, z109, z110, z111, z112, z113, z114, z115, z116, z117, z118, z119, z120, z121, z122, z128, z132, z200, z240, z255, z372, z390625, z400, z420, z421, z422, z662, z900, z940, z999, z1000, z1024, z2000, z5860, z10000, z12345, z15625, z266240, z1048575, z1064960, z1103515245, z_m1, n_le, n_lt, n_eq, n_bit0, n_bit1, n_sbit0, n_shl, z_ltM, z_Mlt, z_leM, z_Mle, z_eqM, z_Meq, bI0, bI1, bI_01, bI_01t, bI_10, bI_10f, if_true, if_false, eq_self, reduceCtorEq, hc, h41, nI_add, z_sub, bb, c', g6])); first | rw [Option.bind_some] | rw [bp_s] | rw [if_true] | rw [if_false] | rw [rv_lt_eq] | rw [if_pos (by omega)] | rw [if_neg (by omega)])
          rw [z1, nI_add]
        · rw [if_neg c2]
          have y1 : ¬ nI (v + N - pre.length) ≤ mI (obC g F pre b i).1 := by rw [cmp _ rfl]; exact c2
          have q2 := rf_of hB1 (show (118, 2, 121) ∈ rv_rf0 by decide)
          have q1 := rf_of hB1 (show (118, 1, 120) ∈ rv_rf0 by decide)
          have t1 := hP1.2.2.2.2.1 i hi
          obtain ⟨S2, eS2⟩ : ∃ S2, S2 = rv_sI S1 121 pre.length (nI (ask i)) := ⟨_, rfl⟩
          have f2 : rvf [121] S1 S2 := by rw [eS2]; exact (rvf.rf _ _).w rfl rfl
          have hB2 := f2.B hB1
          have o2 : OF pre.length S1 S2 := ⟨f2.mono (by decide), fun a h1 h2 h3 k => by rw [eS2, rv_sI_a _ _ _ (by omega)], fun j hj => by rw [eS2, rv_sI_k _ _ (by omega)]⟩
          have hP2 := PLC_f hP1 (by omega) o2
          have ht2 : S2.2.1 121 pre.length = nI (ask i) := by rw [eS2, rv_sI_eq]
          obtain ⟨S3, e3, o3, b3⟩ := k_next hn hk hN hask ih hlen hi hP2 ht2 (ORB_f b1 f2 rfl rfl)
          rw [← ev] at e3
          refine ⟨(S3, nI (i + 1)), ?_, rfl, o1.tr (o2.tr o3), by rw [eF]; rw [eF] at b3; exact b3⟩
          show cX4_place_23 n _ _ (q + 1) S1 118 67 108 (nI pre.length) (nI (obB N pre)) (nI (pye m (pre.map ask))) (nI i) = cX4_place_23 n _ _ q S3 118 67 108 (nI pre.length) (nI (obB N pre)) (nI (pye m (pre.map ask))) (nI (i + 1))
          rw [cX4_place_23, ← ev]
          have ba := obB_add (pre := pre) hi
          repeat (first | (conv => (lhs; arg 1; simp (disch := first | assumption | omega) only [tk_gI, tk_gL, tk_gR, tk_pI, tk_pL, rv_aI, rv_aL, rv_aR, rv_uI, rv_uL, rv_uB, rv_uZ, pu_ckI, pu_ckL, pu_lnI, pu_lnL, tk_rI, tk_rL, Option.bind_some, Option.map_some, rv_lt, tk_ix, z0, z1, z2, z3, z4, z5, z6, z7, z8, z9, z10, z11, z12, z13, z15, z16, z17, z18, z20, z21, z23, z24, z25, z31, z32, z39, z40, z41, z46, z48, z50, z57, z59, z60, z61, z62, z63, z64, z97, z98, z99, z100, z101, z102, z103, z104, z105, z106, z107, z108, z109, z110, z111, z112, z113, z114, z115, z116, z117, z118, z119, z120, z121, z122, z128, z132, z200, z240, z255, z372, z390625, z400, z420, z421, z422, z662, z900, z940, z999, z1000, z1024, z2000, z5860, z10000, z12345, z15625, z266240, z1048575, z1064960, z1103515245, z_m1, n_le, n_lt, n_eq, n_bit0, n_bit1, n_sbit0, n_shl, z_ltM, z_Mlt, z_leM, z_Mle, z_eqM, z_Meq, bI0, bI1, bI_01, bI_01t, bI_10, bI_10f, if_true, if_false, eq_self, reduceCtorEq, hc, h41, nI_add, z_sub, bb, c', g6])); first | rw [Option.bind_some] | rw [bp_s] | rw [if_true] | rw [if_false] | rw [rv_lt_eq] | rw [if_pos (by omega)] | rw [if_neg (by omega)])
          simp (disch := first | assumption | omega) only [tk_gI, tk_gL, tk_gR, tk_pI, tk_pL, rv_aI, rv_aL, rv_aR, rv_uI, rv_uL, rv_uB, rv_uZ, pu_ckI, pu_ckL, pu_lnI, pu_lnL, tk_rI, tk_rL, Option.bind_some, Option.map_some, rv_lt, tk_ix, z0, z1, z2, z3, z4, z5, z6, z7, z8, z9, z10, z11, z12, z13, z15, z16, z17, z18, z20, z21, z23, z24, z25, z31, z32, z39, z40, z41, z46, z48, z50, z57, z59, z60, z61, z62, z63, z64, z97, z98, z99, z100, z101, z102, z103, z104, z105, z106, z107, z108, z109, z110, z111, z112, z113, z114, z115, z116, z117, z118, z119, z120, z121, z122, z128, z132, z200, z240, z255, z372, z390625, z400, z420, z421, z422, z662, z900, z940, z999, z1000, z1024, z2000, z5860, z10000, z12345, z15625, z266240, z1048575, z1064960, z1103515245, z_m1, n_le, n_lt, n_eq, n_bit0, n_bit1, n_sbit0, n_shl, z_ltM, z_Mlt, z_leM, z_Mle, z_eqM, z_Meq, bI0, bI1, bI_01, bI_01t, bI_10, bI_10f, if_true, if_false, eq_self, reduceCtorEq, q1, q2, hc, rn_120 hB1, rn_121 hB1, t1, ← eS2, rc_118 hB2, fa_or, ba, e3, nI_add]
    · obtain ⟨S1, x2⟩ := x
      obtain ⟨rfl, o1, b1⟩ := hx
      have o1 : OF pre.length S S1 := o1
      have hB1 := o1.1.B hB
      have h41 := (PLC_f hP (by omega) o1).2.2.2.1
      refine ⟨S1, ?_, o1, b1⟩
      show cX4_place_23 n _ _ (q + 1) S1 118 67 108 (nI pre.length) (nI (obB N pre)) (nI (pye m (pre.map ask))) (nI N) = _
      rw [cX4_place_23]
      simp (disch := first | assumption | omega) only [tk_gI, tk_gL, tk_gR, tk_pI, tk_pL, rv_aI, rv_aL, rv_aR, rv_uI, rv_uL, rv_uB, rv_uZ, pu_ckI, pu_ckL, pu_lnI, pu_lnL, tk_rI, tk_rL, Option.bind_some, Option.map_some, rv_lt, tk_ix, z0, z1, z2, z3, z4, z5, z6, z7, z8, z9, z10, z11, z12, z13, z15, z16, z17, z18, z20, z21, z23, z24, z25, z31, z32, z39, z40, z41, z46, z48, z50, z57, z59, z60, z61, z62, z63, z64, z97, z98, z99, z100, z101, z102, z103, z104, z105, z106, z107, z108, z109, z110, z111, z112, z113, z114, z115, z116, z117, z118, z119, z120, z121, z122, z128, z132, z200, z240, z255, z372, z390625, z400, z420, z421, z422, z662, z900, z940, z999, z1000, z1024, z2000, z5860, z10000, z12345, z15625, z266240, z1048575, z1064960, z1103515245, z_m1, n_le, n_lt, n_eq, n_bit0, n_bit1, n_sbit0, n_shl, z_ltM, z_Mlt, z_leM, z_Mle, z_eqM, z_Meq, bI0, bI1, bI_01, bI_01t, bI_10, bI_10f, if_true, if_false, eq_self, reduceCtorEq, if_pos, if_neg, rc_118 hB1, h41]
theorem k_best (hn : 1100 ≤ n) (hB : rv_B S) (hR : CR S 67 m) (hk : okm m) {N : Nat} (hN : N ≤ 5) {ask : Nat → Nat} (hask : ∀ i, i < N → ask i < vD m) (h4 : S.2.1 118 4 = nI N) (h120 : ∀ i, i < N → S.2.1 120 i = nI (ask i)) : ∃ S', fnX4_best n S 118 67 108 = some (mI (TO N (fun p => pye m (p.map ask)) N [] (0, [])).1, S') ∧ rvf (118005 :: DO) S S' ∧ S'.2.1 118 5 = nI N ∧ ORB S' N ask (TO N (fun p => pye m (p.map ask)) N [] (0, [])) := by
  obtain ⟨S1, eS1⟩ : ∃ S1, S1 = rv_sI (rv_sI S 118 6 iM) 118 5 (nI N) := ⟨_, rfl⟩
  have f1 : rvf [118005, 118006] S S1 := by
    rw [eS1]
    exact ((rvf.sI S 118 6 iM).mono rfl).tr ((rvf.sI _ 118 5 (nI N)).mono rfl)
  have hB1 := f1.B hB
  have hv : vb 67 := Or.inl rfl
  have R1 := hR.f f1 hv (Or.inl rfl) (Or.inr (by decide)) (Or.inr (by decide)) (Or.inr (by decide))
  have c40 := hk.2.1.1
  obtain ⟨S2, e2, ⟨w1, w2⟩, g1, g2, g3⟩ := k_copyP (n := n) (by omega) hB1 (show pb 123 from pb_o (d := 0) (by omega)) (show pb 75 from Or.inl rfl) (by omega)
  have f2 : rvf DO S1 S2 := ⟨w1, rvr.rf (by rw [w2]), fun a k ha => ⟨g3 a (by
    refine Classical.byContradiction fun z => ha ?_
    rw [lc_row (rwb_p (by omega) (by omega))]
    unfold DO
    simp only [List.mem_cons, List.not_mem_nil, or_false]
    omega) k, by rw [w2]⟩⟩
  have hB2 := f2.B hB1
  have R2 := R1.f f2 hv (Or.inl (by decide)) (Or.inr (by decide)) (Or.inr (by decide)) (Or.inr (by decide))
  have a6 : S2.2.1 118 6 = mI 0 := by rw [g3 118 (by omega), eS1, rv_sI_k _ _ (by decide), rv_sI_eq, mI_0]
  have a5 : S2.2.1 118 5 = nI N := by rw [g3 118 (by omega), eS1, rv_sI_eq]
  have a4 : S2.2.1 118 4 = nI N := by rw [g3 118 (by omega), eS1, rv_sI_k _ _ (by decide), rv_sI_k _ _ (by decide)]; exact h4
  have pl : PLC S2 m N ask [] := ⟨hB2, R2.1, R2.2.2, a4, fun i hi => by rw [g3 120 (by omega), f1.row rfl rfl]; exact h120 i hi, PR_of c40 R1.2.1 g1 g2, fun j hj => absurd hj (Nat.not_lt_zero j), fun x hx => absurd hx List.not_mem_nil⟩
  obtain ⟨S3, e3, o3, b3⟩ := k_place hn hk hN hask N 16 (by omega) [] (0, []) S2 (Nat.zero_add N) pl ⟨Nat.zero_le 6, a6, fun z => absurd z (Nat.not_succ_le_zero 0)⟩
  have hm : ∀ (p : List Nat) i, pye m ((p ++ [i]).map ask) ≤ pye m (p.map ask) + 1 := fun p i => by
    rw [List.map_append]
    have := pye_app (ask i) (p.map ask) m
    have h1 := pyo_le (pyl m (p.map ask)) (ask i)
    show pye m (p.map ask ++ [ask i]) ≤ _
    omega
  rw [CO_TO hm] at b3
  have hB3 := o3.1.B hB2
  refine ⟨S3, ?_, (f1.mono (by decide)).tr ((f2.mono (by decide)).tr (o3.1.mono (by decide))), (o3.1.at (a := 118) (k := 5) rfl).trans a5, b3⟩
  have q0 := rf_of hB1 (show (118, 0, 119) ∈ rv_rf0 by decide)
  have q1 := rf_o hB1 (show 0 ≤ 5 by omega)
  have hVS1 := VS_of hB1 hv
  have hPS1 := PS_of hB1 (show pb 123 from pb_o (d := 0) (by omega))
  have e3 : fnX4_place n 16 S2 118 67 108 (nI 0) (nI 0) (nI 0) = some S3 := by
    have : obB N [] = 0 := bs_zero.mpr (fun k _ => rfl)
    have h := e3
    rw [this] at h
    exact h
  have hB0 : rv_B (rv_sI S 118 6 iM) := (rvf.sI S 118 6 iM).B hB
  have x4 : (rv_sI S 118 6 iM).2.1 118 4 = nI N := by rw [rv_sI_k _ _ (by decide)]; exact h4
  rw [fnX4_best]
  repeat (first | (conv => (lhs; arg 1; simp (disch := first | assumption | omega) only [tk_gI, tk_gL, tk_gR, tk_pI, tk_pL, rv_aI, rv_aL, rv_aR, rv_uI, rv_uL, rv_uB, rv_uZ, pu_ckI, pu_ckL, pu_lnI, pu_lnL, tk_rI, tk_rL, Option.bind_some, Option.map_some, rv_lt, tk_ix, z0, z1, z2, z3, z4, z5, z6, z7, z8, z9, z10, z11, z12, z13, z15, z16, z17, z18, z20, z21, z23, z24, z25, z31, z32, z39, z40, z41, z46, z48, z50, z57, z59, z60, z61, z62, z63, z64, z97, z98, z99, z100, z101, z102, z103, z104, z105, z106, z107, z108, z109, z110, z111, z112, z113, z114, z115, z116, z117, z118, z119, z120, z121, z122, z128, z132, z200, z240, z255, z372, z390625, z400, z420, z421, z422, z662, z900, z940, z999, z1000, z1024, z2000, z5860, z10000, z12345, z15625, z266240, z1048575, z1064960, z1103515245, z_m1, z_m1, rc_118 hB, rc_118 hB0, x4, ← eS1, rc_118 hB1, q0, rn_119 hB1, q1, hVS1, hPS1, e2, rc_118 hB2, e3, rc_118 hB3, b3.2.1])); first | rw [Option.bind_some] | rw [bp_s] | rw [if_true] | rw [if_false] | rw [rv_lt_eq] | rw [if_pos (by omega)] | rw [if_neg (by omega)])
end
