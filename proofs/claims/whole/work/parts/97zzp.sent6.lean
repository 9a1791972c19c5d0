/-! SENTENCE: the whole call, both sides -/
section
variable {n : Nat} {S C R : rvS} {b : Nat → Nat} {L q N o wi : Nat} {T : Tk} {m : Nat → Nat} {wd : Nat → List Nat} {st : List SayT}
/-- what the class does once it stands at the first token -/
noncomputable def kRd (n : Nat) (C : rvS) : Option (Int32 × rvS) := rv_bp (fnX7_readAny n 64 C 99 65 68 (1 : Int32)) fun x10_ S11_ => if x10_ = 0 then some ((0 : Int32), S11_) else (rv_gI S11_ 7 65 4).bind fun x15_ => if x15_ = 0 then some ((1 : Int32), S11_) else (rv_ck S11_ 7 65).bind fun u18_ => rv_bp (fnX8_fail n S11_ 65 (1 : Int32)) fun x21_ S22_ => if x21_ = 0 then some ((0 : Int32), S22_) else some ((1 : Int32), S22_)
/-- the reference takes what it read -/
noncomputable def mCp (n : Nat) (S : rvS) : Option (Int32 × rvS) := (rv_gR S 11 189 14).bind fun a24_ => (rv_uI S a24_ (420 : Int32) (1 : Int32)).bind fun S26_ => (rv_gR S26_ 11 189 14).bind fun a28_ => (rv_gI S26_ 11 189 59).bind fun x30_ => (rv_uI S26_ a28_ (421 : Int32) x30_).bind fun S32_ => cX13_sentence_79 n n S32_ 189 (0 : Int32)
noncomputable def mRd (n : Nat) (R : rvS) : Option (Int32 × rvS) := rv_bp (fnX13_readOr n 64 R 189) fun x16_ S17_ => if x16_ = 0 then (rv_gI S17_ 11 189 11).bind fun x43_ => some ((-1 : Int32) - x43_, S17_) else (rv_gI S17_ 11 189 7).bind fun x21_ => if x21_ = 0 then mCp n S17_ else (rv_ck S17_ 11 189).bind fun u34_ => rv_bp (fnX13_bad n S17_ 189 (1 : Int32)) fun x37_ S38_ => (rv_gI S38_ 11 189 11).bind fun x41_ => some ((-1 : Int32) - x41_, S38_)
theorem read_all (hn : 1000 ≤ n) (h : SV C R b L T q N wd [] 0 0) : ∃ C' R', rvf DSc C C' ∧ rvf DSr R R' ∧ ((kRd n C = some (0, C') ∧ mRd n R = some ((-1 : Int32) - R'.2.1 189 11, R') ∧ FL C' R') ∨ ∃ T' l j top d, kRd n C = some (1, C') ∧ mRd n R = mCp n R' ∧ SV C' R' b L T' q N wd l j 0 ∧ l.length + 1 ≤ 2 * j ∧ R'.2.1 189 59 = nI top ∧ DenN q l.length (ndt R') d top l) := by
  obtain ⟨C2, R2, f2, g2, h2⟩ := any_64 (n := n) (b := b) (L := L) (q := q) (N := N) (wd := wd) hn C R T [] 0 h
  have hB2 := f2.B h.1.1
  have hBR := g2.B h.1.2.1
  rcases h2 with ⟨x1, y1, g⟩ | ⟨T2, l, j, top, dd, x1, y1, h2, hl, h59, hD, p2⟩
  · have x1 : fnX7_readAny n 64 C 99 65 68 (1 : Int32) = some (0, C2) := x1
    refine ⟨C2, R2, f2, g2, Or.inl ⟨?_, ?_, g⟩⟩
    · rw [kRd, x1, bp_s, if_pos rfl]
    · rw [mRd, y1, bp_s, if_pos rfl, tk_gI, rc_189 hBR, Option.map_some, Option.bind_some]
  · have x1 : fnX7_readAny n 64 C 99 65 68 (1 : Int32) = some (1, C2) := x1
    rw [Nat.zero_add, List.nil_append] at h2
    rw [List.nil_append] at hD
    obtain ⟨-, -, -, -, hC, hR, hT, -⟩ := id h2.1
    have h64 := hT.2.2.1
    have hr := rkd_lt T2.2.2.1
    by_cases c : T2.2.2.1 = 0
    · refine ⟨C2, R2, f2, g2, Or.inr ⟨T2, l, j, top, dd, ?_, ?_, h2, hl, h59, hD⟩⟩
      · rw [kRd, x1, bp_s, if_neg (by decide), tk_gI, rc_65 hB2, Option.map_some, Option.bind_some, hC.2.2.1, if_pos (by rw [c]; rfl)]
      · rw [mRd, y1, bp_s, if_neg (by decide), tk_gI, rc_189 hBR, Option.map_some, Option.bind_some, hR.2.2.1, if_pos (by rw [(rkd_s (by decide)).mpr c]; rfl)]
    · obtain ⟨C3, R3, e1, e2, f3, g3, g⟩ := lk_fail (n := n) h2.1 (f := 1) (by decide) (Or.inl rfl)
      have e1 : fnX8_fail n C2 65 (1 : Int32) = some (0, C3) := e1
      have e2 : fnX13_bad n R2 189 (1 : Int32) = some (0, R3) := e2
      refine ⟨C3, R3, f2.tr (f3.mono rfl), g2.tr (g3.mono rfl), Or.inl ⟨?_, ?_, g⟩⟩
      · rw [kRd, x1, bp_s, if_neg (by decide), tk_gI, rc_65 hB2, Option.map_some, Option.bind_some, hC.2.2.1, if_neg (by rw [z0, n_eq (by omega) (by omega)]; exact c), Option.bind_some, e1, bp_s, if_pos rfl]
      · have hc : ¬ nI (rkd T2.2.2.1) = 0 := by
          rw [z0, n_eq (by omega) (by omega), rkd_s (by decide)]
          exact c
        rw [mRd, y1, bp_s, if_neg (by decide), tk_gI, rc_189 hBR, Option.map_some, Option.bind_some, hR.2.2.1, if_neg hc, Option.bind_some, e2, bp_s, tk_gI, rc_189 (g3.B hBR), Option.map_some, Option.bind_some]
theorem m_copyN (hn : 1000 ≤ n) (hB : rv_B R) {j top : Nat} (h57 : R.2.1 189 57 = nI j) (h59 : R.2.1 189 59 = nI top) : ∃ R', mCp n R = some (nI j, R') ∧ rvf [191] R R' ∧ R'.2.1 191 420 = nI 1 ∧ R'.2.1 191 421 = nI top ∧ (∀ i, i < 240 → R'.2.1 191 (422 + i) = R.2.1 216 i) ∧ ∀ k, k < 420 → R'.2.1 191 k = R.2.1 191 k := by
  have r14 : ∀ {Z : rvS}, rv_B Z → Z.2.2.2 189 14 = some 191 := fun h => rf_of h (by decide)
  have r55 : ∀ {Z : rvS}, rv_B Z → Z.2.2.2 189 55 = some 216 := fun h => rf_of h (by decide)
  obtain ⟨R1, e1⟩ : ∃ R1, R1 = rv_sI (rv_sI R 191 420 (nI 1)) 191 421 (nI top) := ⟨_, rfl⟩
  have f1 : rvf [191] R R1 := by rw [e1]; exact (rvf.sIr R _ _ rfl).tr (rvf.sIr _ _ _ rfl)
  have hB1 := f1.B hB
  have top1 : ∀ X, cX13_sentence_79 n n R1 189 (nI 0) = X → mCp n R = X := fun X hX => by
    have s59 : (rv_sI R 191 420 (nI 1)).2.1 189 59 = nI top := (rv_sI_a _ _ _ (by decide) _).trans h59
    rw [mCp]
    repeat (first | (conv => (lhs; arg 1; simp (disch := first | assumption | omega) only [tk_gI, tk_gL, tk_gR, tk_pI, tk_pL, rv_aI, rv_aL, rv_aR, rv_uI, rv_uL, rv_uB, rv_uZ, pu_ckI, pu_ckL, pu_lnI, pu_lnL, tk_rI, tk_rL, Option.bind_some, Option.map_some, rv_lt, tk_ix, z420, z421, z1, rc_189 hB, r14 hB, rn_191 hB, s59])); first | rw [Option.bind_some] | rw [bp_s] | rw [if_true] | rw [if_false] | rw [rv_lt_eq] | rw [if_pos (by omega)] | rw [if_neg (by omega)])
    rw [← e1, z0]
    exact hX
  suffices hs : ∃ R', cX13_sentence_79 n n R1 189 (nI 0) = some (nI j, R') ∧ rvf [191] R R' ∧ R'.2.1 191 420 = nI 1 ∧ R'.2.1 191 421 = nI top ∧ (∀ i, i < 240 → R'.2.1 191 (422 + i) = R.2.1 216 i) ∧ ∀ k, k < 420 → R'.2.1 191 k = R.2.1 191 k by
    obtain ⟨R', e, g⟩ := hs
    exact ⟨R', top1 _ e, g⟩
  refine lp (F := fun q (y : rvS × Int32) => cX13_sentence_79 n q y.1 189 y.2) (fun i y => y.2 = nI i ∧ rvf [191] R1 y.1 ∧ (∀ k, k < i → y.1.2.1 191 (422 + k) = R.2.1 216 k) ∧ ∀ k, k < 422 → y.1.2.1 191 k = R1.2.1 191 k) (fun r => ∃ R', r = some (nI j, R') ∧ rvf [191] R R' ∧ R'.2.1 191 420 = nI 1 ∧ R'.2.1 191 421 = nI top ∧ (∀ i, i < 240 → R'.2.1 191 (422 + i) = R.2.1 216 i) ∧ ∀ k, k < 420 → R'.2.1 191 k = R.2.1 191 k) 240 (fun i y q hi hy => Or.inr ?_) (fun y q hy => ?_) (i := 0) (x := (R1, nI 0)) (q := n) (Nat.zero_le _) ⟨rfl, rvf.rf _ _, fun w hw => absurd hw (Nat.not_lt_zero w), fun _ _ => rfl⟩ (by omega)
  · obtain ⟨Y, y2⟩ := y
    obtain ⟨rfl, fY, hY, hY2⟩ := hy
    have fY : rvf [191] R1 Y := fY
    have hBY := fY.B hB1
    have s2 : Y.2.1 216 i = R.2.1 216 i := (fY.row rfl rfl i).trans (f1.row rfl rfl i)
    refine ⟨(rv_sI Y 191 (422 + i) (R.2.1 216 i), nI (i + 1)), ?_, rfl, fY.tr (rvf.sIr Y _ _ rfl), fun k hk => ?_, fun k hk => ?_⟩
    · show cX13_sentence_79 n (q + 1) Y 189 (nI i) = _
      rw [cX13_sentence_79, if_neg (by rw [z240, n_le (by omega) (by omega)]; omega)]
      repeat (first | (conv => (lhs; arg 1; simp (disch := first | assumption | omega) only [tk_gI, tk_gL, tk_gR, tk_pI, tk_pL, rv_aI, rv_aL, rv_aR, rv_uI, rv_uL, rv_uB, rv_uZ, pu_ckI, pu_ckL, pu_lnI, pu_lnL, tk_rI, tk_rL, Option.bind_some, Option.map_some, rv_lt, tk_ix, z422, nI_add, rc_189 hBY, r14 hBY, r55 hBY, rn_191 hBY, rn_216 hBY, s2])); first | rw [Option.bind_some] | rw [bp_s] | rw [if_true] | rw [if_false] | rw [rv_lt_eq] | rw [if_pos (by omega)] | rw [if_neg (by omega)])
      rw [z1, nI_add]
    · by_cases ck : k = i
      · rw [ck]; exact rv_sI_eq _ _ _ _
      · show (rv_sI Y 191 (422 + i) (R.2.1 216 i)).2.1 191 (422 + k) = _
        rw [rv_sI_k _ _ (by omega)]; exact hY k (by omega)
    · show (rv_sI Y 191 (422 + i) (R.2.1 216 i)).2.1 191 k = _
      rw [rv_sI_k _ _ (by omega)]; exact hY2 k hk
  · obtain ⟨Y, y2⟩ := y
    obtain ⟨rfl, fY, hY, hY2⟩ := hy
    have fY : rvf [191] R1 Y := fY
    have hBY := fY.B hB1
    have s57 : Y.2.1 189 57 = nI j := (fY.at (a := 189) (k := 57) rfl).trans ((f1.at (a := 189) (k := 57) rfl).trans h57)
    refine ⟨Y, ?_, f1.tr fY, ?_, ?_, hY, fun k hk => ?_⟩
    · show cX13_sentence_79 n (q + 1) Y 189 (nI 240) = _
      rw [cX13_sentence_79, if_pos (by rw [z240, n_le (by omega) (by omega)]; omega), tk_gI, rc_189 hBY, Option.map_some, Option.bind_some, s57]
    · exact (hY2 420 (by decide)).trans (by rw [e1, rv_sI_k _ _ (by decide), rv_sI_eq])
    · exact (hY2 421 (by decide)).trans (by rw [e1, rv_sI_eq])
    · refine (hY2 k (by omega)).trans ?_
      rw [e1, rv_sI_k _ _ (by omega), rv_sI_k _ _ (by omega)]
end
