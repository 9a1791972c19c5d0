/-! SENTENCE: one, and all of it -/
section
variable {n d : Nat} {S C R C0 R0 : rvS} {b : Nat → Nat} {L q N o wi : Nat} {T : Tk} {m : Nat → Nat} {wd : Nat → List Nat} {st : List SayT}
/-- the word that begins one, else 22 -/
def stw (T : Tk) : Nat := if T.2.2.1 = 2 ∧ 13 ≤ wo T.2.2.2.2 ∧ wo T.2.2.2.2 ≤ 21 then wo T.2.2.2.2 else 22
theorem stw_lt (h : stw T < 22) : T.2.2.1 = 2 ∧ 13 ≤ wo T.2.2.2.2 ∧ wo T.2.2.2.2 ≤ 21 ∧ stw T = wo T.2.2.2.2 := by
  unfold stw at h ⊢
  by_cases c : T.2.2.1 = 2 ∧ 13 ≤ wo T.2.2.2.2 ∧ wo T.2.2.2.2 ≤ 21
  · rw [if_pos c]; exact ⟨c.1, c.2.1, c.2.2, rfl⟩
  · rw [if_neg c] at h; exact absurd h (Nat.lt_irrefl 22)
def swst (x : Int32) : Option Int32 := if x = 9 then some (1 : Int32) else if x = 10 then some (1 : Int32) else if x = 11 then some (1 : Int32) else if x = 12 then some (1 : Int32) else if x = 13 then some (1 : Int32) else if x = 14 then some (1 : Int32) else if x = 15 then some (1 : Int32) else if x = 16 then some (1 : Int32) else if x = 17 then some (1 : Int32) else some (0 : Int32)
theorem sw_st : ∀ w, w < 23 → swst (rv_sw w) = some (bI (decide (13 ≤ w ∧ w ≤ 21))) := by decide +kernel
theorem k_starts (hB : rv_B C) (hC : KC C T) (hT : okT T) : fnX7_startsOne n C 65 = some (bI (decide (T.2.2.1 = 40 ∨ stw T < 22))) := by
  have h64 := hT.2.2.1
  have c65 := rc_65 hB
  rw [fnX7_startsOne, tk_gI, c65, Option.map_some, Option.bind_some, hC.2.2.1]
  by_cases c : T.2.2.1 = 2
  · have e := (hC.2.2.2.2 c).2
    have hw := wo_lt T.2.2.2.2
    rw [if_pos (by rw [c]; rfl), tk_gR, c65, Option.bind_some, e, Option.bind_some, wd_23 hw, Option.bind_some, ix_23 hw, Option.bind_some, rv_lt_eq]
    refine (sw_st _ hw).trans ?_
    unfold stw
    by_cases d : 13 ≤ wo T.2.2.2.2 ∧ wo T.2.2.2.2 ≤ 21
    · rw [decide_eq_true d, if_pos ⟨c, d⟩, decide_eq_true (Or.inr (by omega))]
    · rw [decide_eq_false d, if_neg (fun z => d z.2), decide_eq_false (by omega)]
  · rw [if_neg (by rw [z2, n_eq (by omega) (by omega)]; exact c), Option.bind_some]
    have e22 : ¬ stw T < 22 := fun z => c (stw_lt z).1
    by_cases d : T.2.2.1 = 40
    · rw [if_pos (by rw [d]; rfl), decide_eq_true (Or.inl d)]
      rfl
    · rw [if_neg (by rw [z40, n_eq (by omega) (by omega)]; exact d), decide_eq_false (fun z => z.elim d e22)]
      rfl
theorem m_one10 {G0 G1 G2 G3 G4 : rvS → Nat → Option (Int32 × rvS)} (hB : rv_B R) (hR : KR R T) (hT : okT T) (x1 : Int32) : ∀ r i q, i + r = 22 → r < q → 13 ≤ i → (∀ k, 13 ≤ k → k < i → iw T k = false) → cX13_readOne_10 n G0 G1 G2 G3 G4 q R 189 x1 (nI i) = cX13_readOne_30 n G0 G1 G2 G3 G4 R 189 x1 (nI (stw T)) := by
  intro r
  induction r with
  | zero =>
    intro i q hi hq h13 hno
    obtain ⟨q, rfl⟩ : ∃ q', q = q' + 1 := ⟨q - 1, by omega⟩
    have e22 : stw T = 22 := by
      unfold stw
      rw [if_neg]
      intro z
      have := hno (wo T.2.2.2.2) z.2.1 (by omega)
      unfold iw at this
      rw [decide_eq_true z.1, decide_eq_true rfl] at this
      cases this
    have ei : i = 22 := by omega
    rw [e22, ei, cX13_readOne_10, if_pos (by rw [z21, n_lt (by omega) (by omega)]; omega)]
  | succ r ih =>
    intro i q hi hq h13 hno
    obtain ⟨q, rfl⟩ : ∃ q', q = q' + 1 := ⟨q - 1, by omega⟩
    rw [cX13_readOne_10, if_neg (by rw [z21, n_lt (by omega) (by omega)]; omega), rc_189 hB, Option.bind_some, m_isWord hB hR hT (show i < 22 by omega), Option.bind_some]
    by_cases c : iw T i = true
    · have ei : stw T = i := by
        obtain ⟨c2, c3⟩ := iw_2 c
        unfold stw
        rw [if_pos ⟨c2, by omega, by omega⟩, c3]
      rw [c, if_neg (show ¬ bI true = 0 by decide), ei]
    · have c : iw T i = false := by
        cases e : iw T i
        · rfl
        · exact absurd e c
      rw [c, if_pos (show bI false = 0 from rfl), rv_lt_eq, z1, nI_add]
      exact ih (i + 1) q (by omega) (by omega) (by omega) (fun k h1 h2 => by
        by_cases e : k = i
        · rw [e]; exact c
        · exact hno k h1 (by omega))
theorem bp_thr {A : Option (Int32 × rvS)} {B : Int32 → rvS → Option rvS} {F : rvS → Int32 → Option (Int32 × rvS)} {v : Int32} {R' : rvS} (e : rv_bp A (fun x S => (B x S).bind fun S8 => some ((1 : Int32), S8)) = some (v, R')) : rv_bp A (fun x S => (B x S).bind fun S8 => F S8 1) = F R' v := by
  cases A with
  | none => cases e
  | some p =>
    obtain ⟨x, S⟩ := p
    have e : (B x S).bind (fun S8 => some ((1 : Int32), S8)) = some (v, R') := e
    show (B x S).bind (fun S8 => F S8 1) = F R' v
    cases hb : B x S with
    | none => rw [hb] at e; cases e
    | some S8 => rw [hb] at e; cases e; rfl
theorem one_step (hn : 1000 ≤ n) (hwi : wi ≤ 8) (hO : wi < 8 → OneP n d b L q N wd (wi + 1)) (hA : wi < 8 → AnyP n d b L q N wd (wi + 1)) : OneP n (d + 2) b L q N wd wi := by
  intro C R T st o h
  obtain ⟨hB, hB2, hTC, hTR, hC, hR, hT, hL⟩ := id h.1
  have h64 := hT.2.2.1
  have c65 := rc_65 hB
  have c99 : rv_ck C 6 99 = some () := (SS_of hB (Or.inr (Or.inl rfl) : vb 87)).1
  have ks := k_starts (n := n) hB hC hT
  have m40 : fnX13_isSign n R 189 (40 : Int32) = some (bI (decide (T.2.2.1 = 40))) := m_isSign (n := n) hB2 hR hT (c := 40) (by decide) (by decide) (by decide)
  have rf0 : fnX13_readOne n (d + 2) R 189 = cX13_readOne_30 n (fGX13_readNot n (d + 1)).1 (fGX13_readNot n (d + 1)).2.1 (fGX13_readNot n (d + 1)).2.2.1 (fGX13_readNot n (d + 1)).2.2.2.1 (fGX13_readNot n (d + 1)).2.2.2.2 R 189 (bI (decide (T.2.2.1 = 40))) (nI (stw T)) := by
    show fbX13_readOne n (fGX13_readNot n (d + 1)).1 (fGX13_readNot n (d + 1)).2.1 (fGX13_readNot n (d + 1)).2.2.1 (fGX13_readNot n (d + 1)).2.2.2.1 (fGX13_readNot n (d + 1)).2.2.2.2 R 189 = _
    rw [fbX13_readOne, rc_189 hB2, Option.bind_some, m40, Option.bind_some, z13]
    exact m_one10 hB2 hR hT _ 9 13 n rfl (by omega) (Nat.le_refl _) (fun k h1 h2 => absurd h2 (by omega))
  by_cases c : T.2.2.1 = 40 ∨ stw T < 22
  · have hk : T.2.2.1 = 40 ∨ T.2.2.1 = 2 := c.elim Or.inl (fun z => Or.inr (stw_lt z).1)
    have rf1 : fnX13_readOne n (d + 2) R 189 = cX13_readOne_46 n (fGX13_readNot n (d + 1)).1 (fGX13_readNot n (d + 1)).2.1 (fGX13_readNot n (d + 1)).2.2.1 (fGX13_readNot n (d + 1)).2.2.2.1 (fGX13_readNot n (d + 1)).2.2.2.2 R 189 (bI (decide (T.2.2.1 = 40))) (nI (stw T)) := by
      rw [rf0, cX13_readOne_30]
      by_cases c0 : T.2.2.1 = 40
      · rw [decide_eq_true c0, if_neg (show ¬ bI true = 0 by decide)]
      · have := c.resolve_left c0
        rw [decide_eq_false c0, if_pos (show bI false = 0 from rfl), if_pos (by rw [z21, n_le (by omega) (by omega)]; omega)]
    rw [decide_eq_true c] at ks
    have e5 : C.2.1 99 5 = nI o := h.2.1.2.1
    obtain ⟨b1, b2, b3⟩ := id h.2.2.1
    have ho := h.2.2.2.2.1
    have hst := h.2.2.2.1
    by_cases c20 : o = 20
    · refine sv_bad (n := n) h (f := 4) (by decide) (Or.inr ⟨by omega, by omega⟩) (rvf.rf _ _) (rvf.rf _ _) (fun C' e => ?_) (fun R' e => ?_)
      · have e : fnX8_fail n C 65 (4 : Int32) = some (0, C') := e
        show fbX7_readOne n (fGX7_readNot n (d + 1)).1 (fGX7_readNot n (d + 1)).2.1 (fGX7_readNot n (d + 1)).2.2.1 (fGX7_readNot n (d + 1)).2.2.2.1 (fGX7_readNot n (d + 1)).2.2.2.2 C 99 65 68 (nI (wi + 1)) = _
        rw [fbX7_readOne, ks, Option.bind_some, if_neg (show ¬ bI true = 0 by decide), tk_gI, c99, Option.map_some, Option.bind_some, e5, if_pos (by rw [c20]; decide), cX7_readOne_28, c65, Option.bind_some, e, bp_s]
        rfl
      · have e : fnX13_bad n R 189 (4 : Int32) = some (0, R') := e
        rw [rf1, cX13_readOne_46, tk_gI, rc_189 hB2, Option.map_some, Option.bind_some, b2, if_pos (by rw [c20]; rfl), cX13_readOne_64, rc_189 hB2, Option.bind_some, e, bp_s]
        rfl
    · by_cases c8 : wi = 8
      · refine sv_bad (n := n) h (f := 4) (by decide) (Or.inr ⟨by omega, by omega⟩) (rvf.rf _ _) (rvf.rf _ _) (fun C' e => ?_) (fun R' e => ?_)
        · have e : fnX8_fail n C 65 (4 : Int32) = some (0, C') := e
          show fbX7_readOne n (fGX7_readNot n (d + 1)).1 (fGX7_readNot n (d + 1)).2.1 (fGX7_readNot n (d + 1)).2.2.1 (fGX7_readNot n (d + 1)).2.2.2.1 (fGX7_readNot n (d + 1)).2.2.2.2 C 99 65 68 (nI (wi + 1)) = _
          rw [fbX7_readOne, ks, Option.bind_some, if_neg (show ¬ bI true = 0 by decide), tk_gI, c99, Option.map_some, Option.bind_some, e5, if_neg (by rw [z20, n_le (by omega) (by omega)]; omega), if_neg (by rw [z8, n_le (by omega) (by omega)]; omega), cX7_readOne_28, c65, Option.bind_some, e, bp_s]
          rfl
        · have e : fnX13_bad n R 189 (4 : Int32) = some (0, R') := e
          rw [rf1, cX13_readOne_46, tk_gI, rc_189 hB2, Option.map_some, Option.bind_some, b2, if_neg (by rw [z20, n_eq (by omega) (by omega)]; exact c20), tk_gI, rc_189 hB2, Option.map_some, Option.bind_some, b3, if_pos (by rw [c8]; rfl), cX13_readOne_64, rc_189 hB2, Option.bind_some, e, bp_s]
          rfl
      · have hw8 : wi < 8 := by omega
        obtain ⟨C1, eC1⟩ : ∃ C1, C1 = rv_sI C 99 5 (nI (o + 1)) := ⟨_, rfl⟩
        obtain ⟨R0, eR0⟩ : ∃ R0, R0 = rv_sI R 189 57 (nI (o + 1)) := ⟨_, rfl⟩
        obtain ⟨R1, eR1⟩ : ∃ R1, R1 = rv_sI R0 189 58 (nI (wi + 1)) := ⟨_, rfl⟩
        have f1 : rvf [99] C C1 := by rw [eC1]; exact rvf.sIr _ _ _ rfl
        have g0 : rvf [189057] R R0 := by rw [eR0]; exact rvf.sI R 189 57 _
        have g01 : rvf [189058] R0 R1 := by rw [eR1]; exact rvf.sI R0 189 58 _
        have g1 : rvf [189057, 189058] R R1 := (g0.mono rfl).tr (g01.mono rfl)
        have h1 : SV C1 R1 b L T q N wd st (o + 1) (wi + 1) := by
          obtain ⟨a1, ⟨a21, a22, a23, a24⟩, -, a4, a5, a6⟩ := h
          refine ⟨(a1.fc f1 rfl).fr g1 rfl, ⟨?_, ?_, ?_, a24⟩, ⟨?_, ?_, ?_⟩, by omega, by omega, (a6.fc f1 rfl rfl).fr g1 rfl rfl⟩
          · rw [eC1]; exact (rv_sI_k _ _ (show ¬ (4 : Nat) = 5 by decide) _).trans a21
          · rw [eC1]; exact rv_sI_eq _ _ _ _
          · intro j t hj
            obtain ⟨y1, y2, y3⟩ := a23 j t hj
            exact ⟨(f1.rowR (a := 100) rfl rfl j).trans y1, (f1.row (a := 101) rfl rfl j).trans y2, (f1.row (a := 102) rfl rfl j).trans y3⟩
          · rw [g1.at (a := 189) (k := 56) rfl]; exact b1
          · rw [g01.at (a := 189) (k := 57) rfl, eR0, rv_sI_eq]
          · rw [eR1, rv_sI_eq]
        have hB1 := f1.B hB
        have hBR0 := g0.B hB2
        have hBR1 := g1.B hB2
        obtain ⟨C2, R2, T2, e1, e2, f2, g2, h2⟩ := sv_next (n := n) hn h1
        have F : rvf DSc C C2 := (f1.mono rfl).tr (f2.mono rfl)
        have G : rvf DSr R R2 := (g1.mono rfl).tr (g2.mono rfl)
        have P : ∀ i, i < 4 * st.length → R2.2.1 216 i = R.2.1 216 i := fun i _ => (g2.row (a := 216) rfl rfl i).trans (g1.row (a := 216) rfl rfl i)
        have c99' : rv_ck C2 6 99 = some () := (SS_of h2.1.1 (Or.inr (Or.inl rfl) : vb 87)).1
        have cR2 := rc_189 h2.1.2.1
        have b58 : R0.2.1 189 58 = nI wi := (g0.at (a := 189) (k := 58) rfl).trans b3
        have k1 : C1.2.1 65 4 = nI T.2.2.1 := h1.1.2.2.2.2.1.2.2.1
        have clA : ∀ X, (if nI T.2.2.1 = (40 : Int32) then ((rv_ck C1 6 99).bind fun u93_ => rv_bp (fnX7_readBracket n (d + 1) C1 99 65 68 (nI (wi + 1))) fun x96_ S97_ => (rv_bo x96_).bind fun b_ => some (b_, S97_)) else (rv_gR C1 7 65 8).bind fun a16_ => (rv_ck C1 7 65).bind fun u18_ => (fnX8_next n C1 65).bind fun S21_ => (rv_wd a16_).bind fun u24_ => (rv_ix 23 (Int32.ofNat a16_)).bind fun j26_ => rv_lt (rv_sw j26_) fun x29_ => if x29_ = 9 then ((rv_ck S21_ 6 99).bind fun u32_ => rv_bp (fnX7_readNot n (d + 1) S21_ 99 65 68 (nI (wi + 1))) fun x35_ S36_ => (rv_bo x35_).bind fun b_ => some (b_, S36_)) else if x29_ = 10 then ((rv_ck S21_ 6 99).bind fun u40_ => rv_bp (fnX7_readOfWho n S21_ 99 65 68 a16_) fun x43_ S44_ => (rv_bo x43_).bind fun b_ => some (b_, S44_)) else if x29_ = 11 then ((rv_ck S21_ 6 99).bind fun u48_ => rv_bp (fnX7_readOfWho n S21_ 99 65 68 a16_) fun x51_ S52_ => (rv_bo x51_).bind fun b_ => some (b_, S52_)) else if x29_ = 12 then ((rv_ck S21_ 6 99).bind fun u56_ => rv_bp (fnX7_readOfWho n S21_ 99 65 68 a16_) fun x59_ S60_ => (rv_bo x59_).bind fun b_ => some (b_, S60_)) else if x29_ = 13 then ((rv_ck S21_ 6 99).bind fun u64_ => rv_bp (fnX7_readOfNumber n S21_ 99 65 a16_) fun x67_ S68_ => (rv_bo x67_).bind fun b_ => some (b_, S68_)) else if x29_ = 14 then ((rv_ck S21_ 6 99).bind fun u72_ => rv_bp (fnX7_readOfNumber n S21_ 99 65 a16_) fun x75_ S76_ => (rv_bo x75_).bind fun b_ => some (b_, S76_)) else if x29_ = 15 then ((rv_ck S21_ 6 99).bind fun u80_ => rv_bp (fnX7_readOfNumber n S21_ 99 65 a16_) fun x83_ S84_ => (rv_bo x83_).bind fun b_ => some (b_, S84_)) else ((rv_ck S21_ 6 99).bind fun u87_ => (fnX7_put n S21_ 99 a16_ (0 : Int32) (0 : Int32)).bind fun S90_ => some ((1 : Int32), S90_))) = X → fnX7_readOne n (d + 2) C 99 65 68 (nI (wi + 1)) = X := fun X hX => by
          show fbX7_readOne n (fGX7_readNot n (d + 1)).1 (fGX7_readNot n (d + 1)).2.1 (fGX7_readNot n (d + 1)).2.2.1 (fGX7_readNot n (d + 1)).2.2.2.1 (fGX7_readNot n (d + 1)).2.2.2.2 C 99 65 68 (nI (wi + 1)) = _
          rw [fbX7_readOne, ks, Option.bind_some, if_neg (show ¬ bI true = 0 by decide), tk_gI, c99, Option.map_some, Option.bind_some, e5, if_neg (by rw [z20, n_le (by omega) (by omega)]; omega), if_pos (by rw [z8, n_le (by omega) (by omega)]; omega), Option.bind_some, tk_pI, c99, Option.map_some, Option.bind_some, show nI o + (1 : Int32) = nI (o + 1) by rw [z1, nI_add], ← eC1, tk_gI, rc_65 hB1, Option.map_some, Option.bind_some, k1]
          rw [rc_65 hB1] at hX
          exact hX
        have rfA : ∀ X, (if bI (decide (T.2.2.1 = 40)) = 0 then (if nI (stw T) = (13 : Int32) then ((rv_ck R2 11 189).bind fun u40_ => rv_bp (fnX13_readNot n (d + 1) R2 189) fun x43_ S44_ => cX13_readOne_172 n (fGX13_readNot n (d + 1)).1 (fGX13_readNot n (d + 1)).2.1 (fGX13_readNot n (d + 1)).2.2.1 (fGX13_readNot n (d + 1)).2.2.2.1 (fGX13_readNot n (d + 1)).2.2.2.2 S44_ 189 x43_) else if nI (stw T) = (17 : Int32) then cX13_readOne_134 n (fGX13_readNot n (d + 1)).1 (fGX13_readNot n (d + 1)).2.1 (fGX13_readNot n (d + 1)).2.2.1 (fGX13_readNot n (d + 1)).2.2.2.1 (fGX13_readNot n (d + 1)).2.2.2.2 R2 189 (nI (stw T)) (1 : Int32) else if nI (stw T) = (18 : Int32) then cX13_readOne_134 n (fGX13_readNot n (d + 1)).1 (fGX13_readNot n (d + 1)).2.1 (fGX13_readNot n (d + 1)).2.2.1 (fGX13_readNot n (d + 1)).2.2.2.1 (fGX13_readNot n (d + 1)).2.2.2.2 R2 189 (nI (stw T)) (1 : Int32) else if (17 : Int32) ≤ nI (stw T) then ((rv_ck R2 11 189).bind fun u26_ => rv_bp (fnX13_readCompare n R2 189 (nI (stw T))) fun x29_ S30_ => cX13_readOne_171 n (fGX13_readNot n (d + 1)).1 (fGX13_readNot n (d + 1)).2.1 (fGX13_readNot n (d + 1)).2.2.1 (fGX13_readNot n (d + 1)).2.2.2.1 (fGX13_readNot n (d + 1)).2.2.2.2 S30_ 189 x29_) else ((rv_ck R2 11 189).bind fun u33_ => rv_bp (fnX13_readNamed n R2 189 (nI (stw T))) fun x36_ S37_ => cX13_readOne_171 n (fGX13_readNot n (d + 1)).1 (fGX13_readNot n (d + 1)).2.1 (fGX13_readNot n (d + 1)).2.2.1 (fGX13_readNot n (d + 1)).2.2.2.1 (fGX13_readNot n (d + 1)).2.2.2.2 S37_ 189 x36_)) else ((rv_ck R2 11 189).bind fun u47_ => rv_bp (fnX13_readBracket n (d + 1) R2 189) fun x50_ S51_ => cX13_readOne_172 n (fGX13_readNot n (d + 1)).1 (fGX13_readNot n (d + 1)).2.1 (fGX13_readNot n (d + 1)).2.2.1 (fGX13_readNot n (d + 1)).2.2.2.1 (fGX13_readNot n (d + 1)).2.2.2.2 S51_ 189 x50_)) = X → fnX13_readOne n (d + 2) R 189 = X := fun X hX => by
          obtain ⟨w, ew⟩ : ∃ w, w = stw T := ⟨_, rfl⟩
          rw [rf1, ← ew, cX13_readOne_46, tk_gI, rc_189 hB2, Option.map_some, Option.bind_some, b2, if_neg (by rw [z20, n_eq (by omega) (by omega)]; exact c20), tk_gI, rc_189 hB2, Option.map_some, Option.bind_some, b3, if_neg (by rw [z8, n_eq (by omega) (by omega)]; exact c8), Option.bind_some, tk_pI, rc_189 hB2, Option.map_some, Option.bind_some, show nI o + (1 : Int32) = nI (o + 1) by rw [z1, nI_add], ← eR0, tk_gI, rc_189 hBR0, Option.map_some, Option.bind_some, b58, tk_pI, rc_189 hBR0, Option.map_some, Option.bind_some, show nI wi + (1 : Int32) = nI (wi + 1) by rw [z1, nI_add], ← eR1, rc_189 hBR1, Option.bind_some, e2, Option.bind_some]
          rw [← ew] at hX
          exact hX
        by_cases c0 : T.2.2.1 = 40
        · have hb := bd_bracket (n := n) (d := d) hn (hA hw8) h2 (rc_65 hB1) e1
          have c991 : rv_ck C1 6 99 = some () := (SS_of hB1 (Or.inr (Or.inl rfl) : vb 87)).1
          refine hb.out hB2 F G P (fun v C' hv e => clA _ ?_) (fun v R' hv e => rfA _ ?_)
          · rw [if_pos (by rw [c0]; rfl), c991, Option.bind_some, e, bp_s, bo_01 hv, Option.bind_some]
          · rw [decide_eq_true c0, if_neg (show ¬ bI true = 0 by decide), cR2, Option.bind_some, e, bp_s]
            rfl
        · obtain ⟨s1, s2, s3, s4⟩ := stw_lt (c.resolve_left c0)
          obtain ⟨w, ew⟩ : ∃ w, w = stw T := ⟨_, rfl⟩
          have e8 : C1.2.2.2 65 8 = some w := by rw [ew, s4]; exact (h1.1.2.2.2.2.1.2.2.2.2 s1).2
          have w23 : w < 23 := by omega
          have clW : ∀ X, (rv_lt (rv_sw w) fun x29_ => if x29_ = 9 then ((rv_ck C2 6 99).bind fun u32_ => rv_bp (fnX7_readNot n (d + 1) C2 99 65 68 (nI (wi + 1))) fun x35_ S36_ => (rv_bo x35_).bind fun b_ => some (b_, S36_)) else if x29_ = 10 then ((rv_ck C2 6 99).bind fun u40_ => rv_bp (fnX7_readOfWho n C2 99 65 68 w) fun x43_ S44_ => (rv_bo x43_).bind fun b_ => some (b_, S44_)) else if x29_ = 11 then ((rv_ck C2 6 99).bind fun u48_ => rv_bp (fnX7_readOfWho n C2 99 65 68 w) fun x51_ S52_ => (rv_bo x51_).bind fun b_ => some (b_, S52_)) else if x29_ = 12 then ((rv_ck C2 6 99).bind fun u56_ => rv_bp (fnX7_readOfWho n C2 99 65 68 w) fun x59_ S60_ => (rv_bo x59_).bind fun b_ => some (b_, S60_)) else if x29_ = 13 then ((rv_ck C2 6 99).bind fun u64_ => rv_bp (fnX7_readOfNumber n C2 99 65 w) fun x67_ S68_ => (rv_bo x67_).bind fun b_ => some (b_, S68_)) else if x29_ = 14 then ((rv_ck C2 6 99).bind fun u72_ => rv_bp (fnX7_readOfNumber n C2 99 65 w) fun x75_ S76_ => (rv_bo x75_).bind fun b_ => some (b_, S76_)) else if x29_ = 15 then ((rv_ck C2 6 99).bind fun u80_ => rv_bp (fnX7_readOfNumber n C2 99 65 w) fun x83_ S84_ => (rv_bo x83_).bind fun b_ => some (b_, S84_)) else ((rv_ck C2 6 99).bind fun u87_ => (fnX7_put n C2 99 w (0 : Int32) (0 : Int32)).bind fun S90_ => some ((1 : Int32), S90_))) = X → fnX7_readOne n (d + 2) C 99 65 68 (nI (wi + 1)) = X := fun X hX => clA X (by
            rw [if_neg (by rw [z40, n_eq (by omega) (by omega)]; exact c0), tk_gR, rc_65 hB1, Option.bind_some, e8, Option.bind_some, Option.bind_some, e1, Option.bind_some, wd_23 w23, Option.bind_some, ix_23 w23, Option.bind_some]
            exact hX)
          have rfW : ∀ X, (if nI w = (13 : Int32) then ((rv_ck R2 11 189).bind fun u40_ => rv_bp (fnX13_readNot n (d + 1) R2 189) fun x43_ S44_ => cX13_readOne_172 n (fGX13_readNot n (d + 1)).1 (fGX13_readNot n (d + 1)).2.1 (fGX13_readNot n (d + 1)).2.2.1 (fGX13_readNot n (d + 1)).2.2.2.1 (fGX13_readNot n (d + 1)).2.2.2.2 S44_ 189 x43_) else if nI w = (17 : Int32) then cX13_readOne_134 n (fGX13_readNot n (d + 1)).1 (fGX13_readNot n (d + 1)).2.1 (fGX13_readNot n (d + 1)).2.2.1 (fGX13_readNot n (d + 1)).2.2.2.1 (fGX13_readNot n (d + 1)).2.2.2.2 R2 189 (nI w) (1 : Int32) else if nI w = (18 : Int32) then cX13_readOne_134 n (fGX13_readNot n (d + 1)).1 (fGX13_readNot n (d + 1)).2.1 (fGX13_readNot n (d + 1)).2.2.1 (fGX13_readNot n (d + 1)).2.2.2.1 (fGX13_readNot n (d + 1)).2.2.2.2 R2 189 (nI w) (1 : Int32) else if (17 : Int32) ≤ nI w then ((rv_ck R2 11 189).bind fun u26_ => rv_bp (fnX13_readCompare n R2 189 (nI w)) fun x29_ S30_ => cX13_readOne_171 n (fGX13_readNot n (d + 1)).1 (fGX13_readNot n (d + 1)).2.1 (fGX13_readNot n (d + 1)).2.2.1 (fGX13_readNot n (d + 1)).2.2.2.1 (fGX13_readNot n (d + 1)).2.2.2.2 S30_ 189 x29_) else ((rv_ck R2 11 189).bind fun u33_ => rv_bp (fnX13_readNamed n R2 189 (nI w)) fun x36_ S37_ => cX13_readOne_171 n (fGX13_readNot n (d + 1)).1 (fGX13_readNot n (d + 1)).2.1 (fGX13_readNot n (d + 1)).2.2.1 (fGX13_readNot n (d + 1)).2.2.2.1 (fGX13_readNot n (d + 1)).2.2.2.2 S37_ 189 x36_)) = X → fnX13_readOne n (d + 2) R 189 = X := fun X hX => rfA X (by
            rw [decide_eq_false c0, if_pos (show bI false = 0 from rfl), ← ew]
            exact hX)
          have h1316 : w = 13 ∨ w = 14 ∨ w = 15 ∨ w = 16 ∨ w = 17 ∨ w = 18 ∨ w = 19 ∨ w = 20 ∨ w = 21 := by omega
          rcases h1316 with e | e | e | e | e | e | e | e | e
          · rw [e] at clW rfW
            refine (bd_not (n := n) (d := d) (hO hw8) h2).out hB2 F G P (fun v C' hv e => clW _ ?_) (fun v R' hv e => rfW _ ?_)
            · rw [rv_lt_eq, if_pos (show rv_sw 13 = 9 by rfl), c99', Option.bind_some, e, bp_s, bo_01 hv, Option.bind_some]
            · rw [if_pos (show nI 13 = 13 from rfl), cR2, Option.bind_some, e, bp_s]
              rfl
          · rw [e] at clW rfW
            refine (bd_named (n := n) hn (w := 14) (by decide) h2 (by omega)).out hB2 F G P (fun v C' hv e => clW _ ?_) (fun v R' hv e => rfW _ ?_)
            · rw [rv_lt_eq, if_neg (show ¬ rv_sw 14 = 9 by decide), if_pos (show rv_sw 14 = 10 by rfl), c99', Option.bind_some, e, bp_s, bo_01 hv, Option.bind_some]
            · rw [if_neg (show ¬ nI 14 = 13 by decide), if_neg (show ¬ nI 14 = 17 by decide), if_neg (show ¬ nI 14 = 18 by decide), if_neg (show ¬ (17 : Int32) ≤ nI 14 by decide), cR2, Option.bind_some, e, bp_s]
              rfl
          · rw [e] at clW rfW
            refine (bd_named (n := n) hn (w := 15) (by decide) h2 (by omega)).out hB2 F G P (fun v C' hv e => clW _ ?_) (fun v R' hv e => rfW _ ?_)
            · rw [rv_lt_eq, if_neg (show ¬ rv_sw 15 = 9 by decide), if_neg (show ¬ rv_sw 15 = 10 by decide), if_pos (show rv_sw 15 = 11 by rfl), c99', Option.bind_some, e, bp_s, bo_01 hv, Option.bind_some]
            · rw [if_neg (show ¬ nI 15 = 13 by decide), if_neg (show ¬ nI 15 = 17 by decide), if_neg (show ¬ nI 15 = 18 by decide), if_neg (show ¬ (17 : Int32) ≤ nI 15 by decide), cR2, Option.bind_some, e, bp_s]
              rfl
          · rw [e] at clW rfW
            refine (bd_named (n := n) hn (w := 16) (by decide) h2 (by omega)).out hB2 F G P (fun v C' hv e => clW _ ?_) (fun v R' hv e => rfW _ ?_)
            · rw [rv_lt_eq, if_neg (show ¬ rv_sw 16 = 9 by decide), if_neg (show ¬ rv_sw 16 = 10 by decide), if_neg (show ¬ rv_sw 16 = 11 by decide), if_pos (show rv_sw 16 = 12 by rfl), c99', Option.bind_some, e, bp_s, bo_01 hv, Option.bind_some]
            · rw [if_neg (show ¬ nI 16 = 13 by decide), if_neg (show ¬ nI 16 = 17 by decide), if_neg (show ¬ nI 16 = 18 by decide), if_neg (show ¬ (17 : Int32) ≤ nI 16 by decide), cR2, Option.bind_some, e, bp_s]
              rfl
          · rw [e] at clW rfW
            refine (bd_plain (n := n) (w := 17) (Or.inl rfl) h2 (by omega)).out hB2 F G P (fun v C' hv e => clW _ ?_) (fun v R' hv e => rfW _ ?_)
            · rw [rv_lt_eq, if_neg (show ¬ rv_sw 17 = 9 by decide), if_neg (show ¬ rv_sw 17 = 10 by decide), if_neg (show ¬ rv_sw 17 = 11 by decide), if_neg (show ¬ rv_sw 17 = 12 by decide), if_neg (show ¬ rv_sw 17 = 13 by decide), if_neg (show ¬ rv_sw 17 = 14 by decide), if_neg (show ¬ rv_sw 17 = 15 by decide), c99', Option.bind_some]
              exact e
            · rw [if_neg (show ¬ nI 17 = 13 by decide), if_pos (show nI 17 = 17 from rfl), cX13_readOne_134, cR2, Option.bind_some]
              exact bp_thr (F := fun S8 x => cX13_readOne_172 n (fGX13_readNot n (d + 1)).1 (fGX13_readNot n (d + 1)).2.1 (fGX13_readNot n (d + 1)).2.2.1 (fGX13_readNot n (d + 1)).2.2.2.1 (fGX13_readNot n (d + 1)).2.2.2.2 S8 189 x) e
          · rw [e] at clW rfW
            refine (bd_plain (n := n) (w := 18) (Or.inr rfl) h2 (by omega)).out hB2 F G P (fun v C' hv e => clW _ ?_) (fun v R' hv e => rfW _ ?_)
            · rw [rv_lt_eq, if_neg (show ¬ rv_sw 18 = 9 by decide), if_neg (show ¬ rv_sw 18 = 10 by decide), if_neg (show ¬ rv_sw 18 = 11 by decide), if_neg (show ¬ rv_sw 18 = 12 by decide), if_neg (show ¬ rv_sw 18 = 13 by decide), if_neg (show ¬ rv_sw 18 = 14 by decide), if_neg (show ¬ rv_sw 18 = 15 by decide), c99', Option.bind_some]
              exact e
            · rw [if_neg (show ¬ nI 18 = 13 by decide), if_neg (show ¬ nI 18 = 17 by decide), if_pos (show nI 18 = 18 from rfl), cX13_readOne_134, cR2, Option.bind_some]
              exact bp_thr (F := fun S8 x => cX13_readOne_172 n (fGX13_readNot n (d + 1)).1 (fGX13_readNot n (d + 1)).2.1 (fGX13_readNot n (d + 1)).2.2.1 (fGX13_readNot n (d + 1)).2.2.2.1 (fGX13_readNot n (d + 1)).2.2.2.2 S8 189 x) e
          · rw [e] at clW rfW
            refine (bd_compare (n := n) hn (w := 19) (by decide) h2 (by omega)).out hB2 F G P (fun v C' hv e => clW _ ?_) (fun v R' hv e => rfW _ ?_)
            · rw [rv_lt_eq, if_neg (show ¬ rv_sw 19 = 9 by decide), if_neg (show ¬ rv_sw 19 = 10 by decide), if_neg (show ¬ rv_sw 19 = 11 by decide), if_neg (show ¬ rv_sw 19 = 12 by decide), if_pos (show rv_sw 19 = 13 by rfl), c99', Option.bind_some, e, bp_s, bo_01 hv, Option.bind_some]
            · rw [if_neg (show ¬ nI 19 = 13 by decide), if_neg (show ¬ nI 19 = 17 by decide), if_neg (show ¬ nI 19 = 18 by decide), if_pos (show (17 : Int32) ≤ nI 19 by decide), cR2, Option.bind_some, e, bp_s]
              rfl
          · rw [e] at clW rfW
            refine (bd_compare (n := n) hn (w := 20) (by decide) h2 (by omega)).out hB2 F G P (fun v C' hv e => clW _ ?_) (fun v R' hv e => rfW _ ?_)
            · rw [rv_lt_eq, if_neg (show ¬ rv_sw 20 = 9 by decide), if_neg (show ¬ rv_sw 20 = 10 by decide), if_neg (show ¬ rv_sw 20 = 11 by decide), if_neg (show ¬ rv_sw 20 = 12 by decide), if_neg (show ¬ rv_sw 20 = 13 by decide), if_pos (show rv_sw 20 = 14 by rfl), c99', Option.bind_some, e, bp_s, bo_01 hv, Option.bind_some]
            · rw [if_neg (show ¬ nI 20 = 13 by decide), if_neg (show ¬ nI 20 = 17 by decide), if_neg (show ¬ nI 20 = 18 by decide), if_pos (show (17 : Int32) ≤ nI 20 by decide), cR2, Option.bind_some, e, bp_s]
              rfl
          · rw [e] at clW rfW
            refine (bd_compare (n := n) hn (w := 21) (by decide) h2 (by omega)).out hB2 F G P (fun v C' hv e => clW _ ?_) (fun v R' hv e => rfW _ ?_)
            · rw [rv_lt_eq, if_neg (show ¬ rv_sw 21 = 9 by decide), if_neg (show ¬ rv_sw 21 = 10 by decide), if_neg (show ¬ rv_sw 21 = 11 by decide), if_neg (show ¬ rv_sw 21 = 12 by decide), if_neg (show ¬ rv_sw 21 = 13 by decide), if_neg (show ¬ rv_sw 21 = 14 by decide), if_pos (show rv_sw 21 = 15 by rfl), c99', Option.bind_some, e, bp_s, bo_01 hv, Option.bind_some]
            · rw [if_neg (show ¬ nI 21 = 13 by decide), if_neg (show ¬ nI 21 = 17 by decide), if_neg (show ¬ nI 21 = 18 by decide), if_pos (show (17 : Int32) ≤ nI 21 by decide), cR2, Option.bind_some, e, bp_s]
              rfl
  · refine sv_bad (n := n) h (f := 1) (by decide) (Or.inl rfl) (rvf.rf _ _) (rvf.rf _ _) (fun C' e => ?_) (fun R' e => ?_)
    · have e : fnX8_fail n C 65 (1 : Int32) = some (0, C') := e
      show fbX7_readOne n (fGX7_readNot n (d + 1)).1 (fGX7_readNot n (d + 1)).2.1 (fGX7_readNot n (d + 1)).2.2.1 (fGX7_readNot n (d + 1)).2.2.2.1 (fGX7_readNot n (d + 1)).2.2.2.2 C 99 65 68 (nI (wi + 1)) = _
      rw [fbX7_readOne, ks, Option.bind_some, decide_eq_false c, if_pos (show bI false = 0 from rfl), c65, Option.bind_some, e, bp_s]
      rfl
    · have e : fnX13_bad n R 189 (1 : Int32) = some (0, R') := e
      have c40 : ¬ T.2.2.1 = 40 := fun z => c (Or.inl z)
      have s22 : stw T ≤ 22 := by
        unfold stw
        split
        · omega
        · exact Nat.le_refl _
      have c22 : ¬ stw T < 22 := fun z => c (Or.inr z)
      rw [rf0, cX13_readOne_30, decide_eq_false c40, if_pos (show bI false = 0 from rfl), if_neg (by rw [z21, n_le (by omega) (by omega)]; omega), rc_189 hB2, Option.bind_some, e, bp_s]
      rfl
theorem one_all (hn : 1000 ≤ n) : ∀ k, k ≤ 8 → ∀ d, 4 * k + 2 ≤ d → OneP n d b L q N wd (8 - k) := by
  intro k
  induction k with
  | zero =>
    intro _ d hd
    obtain ⟨d, rfl⟩ : ∃ d', d = d' + 2 := ⟨d - 2, by omega⟩
    exact one_step hn (Nat.le_refl 8) (fun z => absurd z (by omega)) (fun z => absurd z (by omega))
  | succ k ih =>
    intro hk d hd
    obtain ⟨d, rfl⟩ : ∃ d', d = d' + 4 := ⟨d - 4, by omega⟩
    have ek : 8 - (k + 1) + 1 = 8 - k := by omega
    have o1 := ih (by omega) (d + 2) (by omega)
    have o2 := any_of hn (all_of hn (ih (by omega) d (by omega)))
    rw [← ek] at o1 o2
    exact one_step (d := d + 2) hn (by omega) (fun _ => o1) (fun _ => o2)
theorem any_64 (hn : 1000 ≤ n) : AnyP n 64 b L q N wd 0 := any_of (d := 63) hn (all_of (d := 62) hn (one_all hn 8 (Nat.le_refl _) 62 (by omega)))
end
