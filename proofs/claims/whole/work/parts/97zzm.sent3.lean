/-! SENTENCE: one of its parts -/
section
variable {n d : Nat} {S C R C0 R0 : rvS} {b : Nat → Nat} {L q N o wi : Nat} {T : Tk} {m : Nat → Nat} {wd : Nat → List Nat} {st : List SayT}
theorem CSn.mv {D : List Nat} {C' : rvS} (h : CSn C 87 o st) (f : rvf D C C') (hd : [99, 100, 101, 102].all (fun a => !D.elem a) = true) : CSn C' 87 o st := by
  have g : ∀ a, a ∈ [99, 100, 101, 102] → D.elem a = false := fun a ha => by
    have := List.all_eq_true.mp hd a ha
    simpa using this
  refine h.f (fun x hx => funext fun k => ?_) (fun k => f.rowR (a := 100) rfl (g 100 (by decide)) k)
  rcases hx with rfl | rfl | rfl
  · exact f.row (a := 99) rfl (g 99 (by decide)) k
  · exact f.row (a := 101) rfl (g 101 (by decide)) k
  · exact f.row (a := 102) rfl (g 102 (by decide)) k
theorem RSN.out {C2 R2 : rvS} {x y X Y : Option (Int32 × rvS)} (h : RSN C2 R2 b L q N wd st (o + 1) (wi + 1) 1 x y) (hB : rv_B R) (f : rvf DSc C C2) (g : rvf DSr R R2) (e : ∀ i, i < 4 * st.length → R2.2.1 216 i = R.2.1 216 i) (hX : ∀ v C', v = 0 ∨ v = 1 → x = some (v, C') → X = some (v, C')) (hY : ∀ v R', v = 0 ∨ v = 1 → y = some (v, R') → Y = (rv_gI R' 11 189 58).bind fun x1_ => (rv_pI R' 11 189 58 (x1_ - (1 : Int32))).bind fun S3_ => (rv_bo v).bind fun b_ => some (b_, S3_)) : RSN C R b L q N wd st o wi 0 X Y := by
  obtain ⟨C', R', f', g', h'⟩ := h
  have hB' := g'.B (g.B hB)
  have step : ∀ v z, v = 0 ∨ v = 1 → y = some (v, R') → R'.2.1 189 58 - (1 : Int32) = z → Y = some (v, rv_sI R' 189 58 z) := fun v z hv hy hz => by
    rw [hY v R' hv hy]
    simp only [tk_gI, tk_pI, rc_189 hB', Option.map_some, Option.bind_some, hz, bo_01 hv]
  rcases h' with ⟨x1, y1, fi, p, l1, l2, l3, l4, l5, l6⟩ | ⟨T', l, j, top, d, x1, y1, hS, hl, h59, hD, hp⟩
  · have f9 := rvf.sI R' 189 58 (R'.2.1 189 58 - (1 : Int32))
    exact ⟨C', rv_sI R' 189 58 (R'.2.1 189 58 - (1 : Int32)), f.tr f', (g.tr g').tr (f9.mono rfl), Or.inl ⟨hX _ _ (Or.inl rfl) x1, step _ _ (Or.inl rfl) y1 rfl, fi, p, l1, l2, l3, l4, (f9.at (a := 189) (k := 10) rfl).trans l5, (f9.at (a := 189) (k := 11) rfl).trans l6⟩⟩
  · have f9 := rvf.sI R' 189 58 (nI wi)
    have e58 : R'.2.1 189 58 - (1 : Int32) = nI wi := by rw [hS.2.2.1.2.2, z1, z_sub (by omega), Nat.add_sub_cancel]
    have eo : o + 1 + j = o + (j + 1) := by omega
    rw [eo] at hS
    obtain ⟨a1, a2, ⟨b1, b2, b3⟩, a4, a5, a6⟩ := hS
    refine ⟨C', rv_sI R' 189 58 (nI wi), f.tr f', (g.tr g').tr (f9.mono rfl), Or.inr ⟨T', l, j + 1, top, d, hX _ _ (Or.inr rfl) x1, step _ _ (Or.inr rfl) y1 e58, ⟨a1.fr f9 rfl, a2, ⟨?_, ?_, rv_sI_eq _ _ _ _⟩, a4, a5, a6.fr f9 rfl rfl⟩, hl, ?_, ?_, fun i hi => (hp i hi).trans (e i hi)⟩⟩
    · rw [f9.at (a := 189) (k := 56) rfl]; exact b1
    · rw [f9.at (a := 189) (k := 57) rfl]; exact b2
    · rw [f9.at (a := 189) (k := 59) rfl]; exact h59
    · rw [ndt_f f9 rfl]; exact hD
theorem bd_not (hO : OneP n d b L q N wd wi) (h : SV C R b L T q N wd st o wi) : RSN C R b L q N wd st o wi 1 (fnX7_readNot n (d + 1) C 99 65 68 (nI wi)) (fnX13_readNot n (d + 1) R 189) := by
  have hB := h.1.1
  have hB2 := h.1.2.1
  have c99 : rv_ck C 6 99 = some () := (SS_of hB (Or.inr (Or.inl rfl) : vb 87)).1
  have ew : nI wi + (1 : Int32) = nI (wi + 1) := by rw [z1, nI_add]
  have cl : ∀ X, (rv_bp (fnX7_readOne n d C 99 65 68 (nI (wi + 1))) fun x4_ S5_ => if x4_ = 0 then some ((0 : Int32), S5_) else (rv_ck S5_ 6 99).bind fun u9_ => (fnX7_put n S5_ 99 13 (0 : Int32) (0 : Int32)).bind fun S12_ => some ((1 : Int32), S12_)) = X → fnX7_readNot n (d + 1) C 99 65 68 (nI wi) = X := fun X hX => by
    show fbX7_readNot n (fGX7_readNot n d).1 (fGX7_readNot n d).2.1 (fGX7_readNot n d).2.2.1 (fGX7_readNot n d).2.2.2.1 (fGX7_readNot n d).2.2.2.2 C 99 65 68 (nI wi) = X
    rw [fbX7_readNot, c99, Option.bind_some, ew]
    exact hX
  have rf : ∀ X, (rv_bp (fnX13_readOne n d R 189) fun x4_ S5_ => if x4_ = 0 then some ((0 : Int32), S5_) else (rv_gI S5_ 11 189 59).bind fun x9_ => (rv_ck S5_ 11 189).bind fun u11_ => rv_bp (fnX13_lays n S5_ 189 (1 : Int32) x9_ (0 : Int32) (0 : Int32)) fun x14_ S15_ => (rv_pI S15_ 11 189 59 x14_).bind fun S18_ => some ((1 : Int32), S18_)) = X → fnX13_readNot n (d + 1) R 189 = X := fun X hX => by
    show fbX13_readNot n (fGX13_readNot n d).1 (fGX13_readNot n d).2.1 (fGX13_readNot n d).2.2.1 (fGX13_readNot n d).2.2.2.1 (fGX13_readNot n d).2.2.2.2 R 189 = X
    rw [fbX13_readNot, rc_189 hB2, Option.bind_some]
    exact hX
  obtain ⟨C2, R2, f2, g2, h2⟩ := hO C R T st o h
  rcases h2 with ⟨x1, y1, g⟩ | ⟨T2, l, j, top, dd, x1, y1, h2, hl, h59, hD, p2⟩
  · refine ⟨C2, R2, f2, g2, Or.inl ⟨cl _ ?_, rf _ ?_, g⟩⟩
    · rw [x1, bp_s, if_pos rfl]
    · rw [y1, bp_s, if_pos rfl]
  · have hl : l.length + 1 ≤ 2 * j := hl
    have hs := h.2.2.2.1
    have hlen1 : (st ++ l).length = st.length + l.length := List.length_append
    have c992 : rv_ck C2 6 99 = some () := (SS_of h2.1.1 (Or.inr (Or.inl rfl) : vb 87)).1
    have hB22 := h2.1.2.1
    obtain ⟨C3, R3, e3, e4, f3, g3, h3, ⟨n1, n2, n3, n4⟩, p3⟩ := sv_put (n := n) h2 (by omega) (w := 13) (s := 0) (a := 0) (by decide) (nI 1) (nI top) (nI 0) (nI 0)
    have e3 : fnX7_put n C2 99 13 (0 : Int32) (0 : Int32) = some C3 := e3
    have e4 : fnX13_lays n R2 189 (1 : Int32) (nI top) (0 : Int32) (0 : Int32) = some (nI (st ++ l).length, R3) := e4
    have f9 := rvf.sI R3 189 59 (nI (st ++ l).length)
    obtain ⟨k1, k2, -, -⟩ := ndt_k (R := R3) (st ++ l).length
    rw [List.append_assoc] at h3
    have eL : (st ++ (l ++ [((13 : Nat), (0 : Nat), (0 : Nat))])).length = (st ++ l).length + 1 := by rw [← List.append_assoc, List.length_append, List.length_singleton]
    refine ⟨C3, rv_sI R3 189 59 (nI (st ++ l).length), f2.tr (f3.mono rfl), (g2.tr (g3.mono rfl)).tr (f9.mono rfl), Or.inr ⟨T2, l ++ [(13, 0, 0)], j, (st ++ l).length, dd + 1, cl _ ?_, rf _ ?_, h3.fr f9 rfl rfl, ?_, rv_sI_eq _ _ _ _, ?_, fun i hi => (p3 i (by omega)).trans (p2 i hi)⟩⟩
    · rw [x1, bp_s, if_neg (by decide), c992, Option.bind_some, e3, Option.bind_some]
    · rw [y1, bp_s, if_neg (by decide), tk_gI, rc_189 hB22, Option.map_some, Option.bind_some, Option.bind_some, h59, e4, bp_s, tk_pI, rc_189 (g3.B hB22), Option.map_some, Option.bind_some]
    · rw [List.length_append, List.length_singleton]; omega
    · rw [ndt_f f9 rfl, eL]
      exact ⟨Nat.lt_succ_self _, Or.inr (Or.inl ⟨top, l, rfl, k1.trans n1, k2.trans n2, (hD.c (M' := (st ++ l).length) (Nat.le_refl _) (ndt_c p3)).c (Nat.le_succ _) (fun _ _ _ => rfl)⟩)⟩
theorem bd_bracket (hn : 1000 ≤ n) (hA : AnyP n d b L q N wd wi) (h : SV C R b L T q N wd st o wi) (h65 : rv_ck C0 7 65 = some ()) (e1 : fnX8_next n C0 65 = some C) : RSN C R b L q N wd st o wi 1 (fnX7_readBracket n (d + 1) C0 99 65 68 (nI wi)) (fnX13_readBracket n (d + 1) R 189) := by
  have hB := h.1.1
  have hB2 := h.1.2.1
  have c99 : rv_ck C 6 99 = some () := (SS_of hB (Or.inr (Or.inl rfl) : vb 87)).1
  have ew : nI wi + (1 : Int32) = nI (wi + 1) := by rw [z1, nI_add]
  have cl : ∀ X, (rv_bp (fnX7_readAny n d C 99 65 68 (nI (wi + 1))) fun x10_ S11_ => if x10_ = 0 then some ((0 : Int32), S11_) else (rv_gI S11_ 7 65 4).bind fun x15_ => if x15_ = (41 : Int32) then ((rv_ck S11_ 7 65).bind fun u18_ => (fnX8_next n S11_ 65).bind fun S21_ => some ((1 : Int32), S21_)) else ((rv_ck S11_ 7 65).bind fun u24_ => rv_bp (fnX8_fail n S11_ 65 (1 : Int32)) fun x27_ S28_ => (rv_bo x27_).bind fun b_ => some (b_, S28_))) = X → fnX7_readBracket n (d + 1) C0 99 65 68 (nI wi) = X := fun X hX => by
    show fbX7_readBracket n (fGX7_readNot n d).1 (fGX7_readNot n d).2.1 (fGX7_readNot n d).2.2.1 (fGX7_readNot n d).2.2.2.1 (fGX7_readNot n d).2.2.2.2 C0 99 65 68 (nI wi) = X
    rw [fbX7_readBracket, h65, Option.bind_some, e1, Option.bind_some, c99, Option.bind_some, ew]
    exact hX
  have rf : ∀ X, (rv_bp (fnX13_readOr n d R 189) fun x4_ S5_ => if x4_ = 0 then some ((0 : Int32), S5_) else (rv_ck S5_ 11 189).bind fun u9_ => (fnX13_isSign n S5_ 189 (41 : Int32)).bind fun x12_ => if x12_ = 0 then ((rv_ck S5_ 11 189).bind fun u21_ => rv_bp (fnX13_bad n S5_ 189 (1 : Int32)) fun x24_ S25_ => (rv_bo x24_).bind fun b_ => some (b_, S25_)) else ((rv_ck S5_ 11 189).bind fun u15_ => (fnX13_go n S5_ 189).bind fun S18_ => some ((1 : Int32), S18_))) = X → fnX13_readBracket n (d + 1) R 189 = X := fun X hX => by
    show fbX13_readBracket n (fGX13_readNot n d).1 (fGX13_readNot n d).2.1 (fGX13_readNot n d).2.2.1 (fGX13_readNot n d).2.2.2.1 (fGX13_readNot n d).2.2.2.2 R 189 = X
    rw [fbX13_readBracket, rc_189 hB2, Option.bind_some]
    exact hX
  obtain ⟨C2, R2, f2, g2, h2⟩ := hA C R T st o h
  rcases h2 with ⟨x1, y1, g⟩ | ⟨T2, l, j, top, dd, x1, y1, h2, hl, h59, hD, p2⟩
  · refine ⟨C2, R2, f2, g2, Or.inl ⟨cl _ ?_, rf _ ?_, g⟩⟩
    · rw [x1, bp_s, if_pos rfl]
    · rw [y1, bp_s, if_pos rfl]
  · have hl : l.length + 1 ≤ 2 * j := hl
    have hBC := h2.1.1
    have hB22 := h2.1.2.1
    have h64 := h2.1.2.2.2.2.2.2.1.2.2.1
    have e4 := h2.1.2.2.2.2.1.2.2.1
    have ms : fnX13_isSign n R2 189 (41 : Int32) = some (bI (decide (T2.2.2.1 = 41))) := m_isSign (n := n) hB22 h2.1.2.2.2.2.2.1 h2.1.2.2.2.2.2.2.1 (c := 41) (by decide) (by decide) (by decide)
    by_cases c : T2.2.2.1 = 41
    · rw [decide_eq_true c] at ms
      obtain ⟨C3, R3, T3, e5, e6, f3, g3, h3⟩ := sv_next (n := n) hn h2
      refine ⟨C3, R3, f2.tr (f3.mono rfl), g2.tr (g3.mono rfl), Or.inr ⟨T3, l, j, top, dd, cl _ ?_, rf _ ?_, h3, by omega, ?_, ?_, fun i hi => (g3.row (a := 216) rfl rfl i).trans (p2 i hi)⟩⟩
      · rw [x1, bp_s, if_neg (by decide), tk_gI, rc_65 hBC, Option.map_some, Option.bind_some, e4, if_pos (by rw [c]; rfl), Option.bind_some, e5, Option.bind_some]
      · rw [y1, bp_s, if_neg (by decide), rc_189 hB22, Option.bind_some, ms, Option.bind_some, if_neg (by decide), Option.bind_some, e6, Option.bind_some]
      · rw [g3.at (a := 189) (k := 59) rfl]; exact h59
      · rw [ndt_f g3 rfl]; exact hD
    · rw [decide_eq_false c] at ms
      refine sv_bad (n := n) h2 (f := 1) (by decide) (Or.inl rfl) f2 g2 (fun C' e => cl _ ?_) (fun R' e => rf _ ?_)
      · have e : fnX8_fail n C2 65 (1 : Int32) = some (0, C') := e
        rw [x1, bp_s, if_neg (by decide), tk_gI, rc_65 hBC, Option.map_some, Option.bind_some, e4, if_neg (by rw [z41, n_eq (by omega) (by omega)]; exact c), Option.bind_some, e, bp_s]
        rfl
      · have e : fnX13_bad n R2 189 (1 : Int32) = some (0, R') := e
        rw [y1, bp_s, if_neg (by decide), rc_189 hB22, Option.bind_some, ms, Option.bind_some, if_pos (show bI false = 0 from rfl), Option.bind_some, e, bp_s]
        rfl
end
