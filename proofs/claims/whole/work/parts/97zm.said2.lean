/-! SAID: the reference's count -/
section
variable {n : Nat} {S : rvS} {m : Nat → Nat} {wd : Nat → List Nat}
/-- what a row of steps says of coin c -/
def TS (m : Nat → Nat) (st : List SayT) (c : Nat) : Bool := match evc (b1s m c) st [] with
  | v :: _ => v
  | [] => false
theorem m_saidT (hn : 50 ≤ n) (hk : okm m) {c : Nat} (hcc : c < vC m) {st : List SayT} (h40 : st.length ≤ 40) {d top : Nat} (hB : rv_B S) (hM : MR S m) {t : Nat → Int32} (ht : ∀ j, j < 242 → S.2.1 191 (420 + j) = t j) (hD : Den (m 6) t d top st) : ∃ S', fnX13_holds n 128 S 189 (nI top) (nI c) = some (bI (TS m st c), S') ∧ rvf [199] S S' := by
  obtain ⟨v, S', e, f, p⟩ := m_tree (n := n) (m := m) (c := c) (t := t) (b := b1s m c) (fun k w s a D S hB hM ht h0 e1 h => m_leafS (n := n) hn hk hcc k w s a D S hB hM ht h0 e1 h) st.length top st 128 S (Den_len hD) (by omega) hB hM ht
  refine ⟨S', ?_, f⟩
  have ev : TS m st c = v := by
    unfold TS
    rw [p []]
  rw [ev]
  exact e
theorem m_said26 (hn : 50 ≤ n) (hk : okm m) {st : List SayT} (h40 : st.length ≤ 40) {d top : Nat} {t : Nat → Int32} (hD : Den (m 6) t d top st) (h1 : t 1 = nI top) (x : Int32) : ∀ r q c (S : rvS), c + r = vC m → r < q → rv_B S → MR S m → (∀ j, j < 242 → S.2.1 191 (420 + j) = t j) → ∃ S', cX13_said_26 n q S 189 x (nI (fb_ct (TS m st) c)) (nI c) = some (if x = iM then nI (fb_ct (TS m st) (vC m)) else ktl (TS m st) x r c (fb_ct (TS m st) c), S') ∧ rvf [199] S S' := by
  have hv40 := hk.2.1.1
  intro r
  induction r with
  | zero =>
    intro q c S hc hq hB hM ht
    obtain ⟨q, rfl⟩ : ∃ q', q = q' + 1 := ⟨q - 1, by omega⟩
    have e : c = vC m := by omega
    subst e
    refine ⟨S, ?_, rvf.rf _ _⟩
    rw [cX13_said_26, rc_189 hB, Option.bind_some, m_coins hB hM, Option.bind_some, if_pos (by rw [n_le (by omega) (by omega)]; omega), cX13_said_69]
    by_cases c1 : x = iM
    · rw [if_pos c1, if_pos (show x = -1 from c1)]
    · rw [if_neg c1, if_neg (show ¬ x = -1 from c1)]
      rfl
  | succ r ih =>
    intro q c S hc hq hB hM ht
    obtain ⟨q, rfl⟩ : ∃ q', q = q' + 1 := ⟨q - 1, by omega⟩
    have le := fb_ct_le (TS m st) c
    obtain ⟨S1, e1, f1⟩ := m_saidT (n := n) hn hk (c := c) (by omega) h40 hB hM ht hD
    have c1 := ht 1 (by decide)
    rw [h1] at c1
    have c1 : S.2.1 191 421 = nI top := c1
    have r14 := rf_of hB (show (189, 14, 191) ∈ rv_rf0 by decide)
    obtain ⟨S2, e2, f2⟩ := ih q (c + 1) S1 (by omega) (by omega) (f1.B hB) (hM.f f1 rfl) (fun j hj => (f1.row rfl rfl _).trans (ht j hj))
    have body : ∀ R, (rv_bp (some (bI (TS m st c), S1)) fun x14_ S15_ => if x14_ = 0 then (rv_lt (nI c + (1)) fun x24_ => cX13_said_26 n q S15_ 189 x (nI (fb_ct (TS m st) c)) x24_) else (if nI (fb_ct (TS m st) c) = x then some (nI c, S15_) else (rv_lt (nI (fb_ct (TS m st) c) + (1)) fun x20_ => rv_lt (nI c + (1)) fun x22_ => cX13_said_26 n q S15_ 189 x x20_ x22_))) = R → cX13_said_26 n (q + 1) S 189 x (nI (fb_ct (TS m st) c)) (nI c) = R := fun R hR => by
      rw [cX13_said_26, rc_189 hB, Option.bind_some, m_coins hB hM, Option.bind_some, if_neg (by rw [n_le (by omega) (by omega)]; omega), show (421 : Int32) = nI 421 by rw [fa_lit]]
      repeat (first | (conv => (lhs; arg 1; simp (disch := first | assumption | omega) only [tk_gI, tk_gL, tk_gR, tk_pI, tk_pL, rv_aI, rv_aL, rv_aR, rv_uI, rv_uL, rv_uB, rv_uZ, pu_ckI, pu_ckL, pu_lnI, pu_lnL, tk_rI, tk_rL, Option.bind_some, Option.map_some, rv_lt, tk_ix, rc_189 hB, r14, rn_191 hB, c1])); first | rw [Option.bind_some] | rw [bp_s] | rw [if_true] | rw [if_false] | rw [rv_lt_eq] | rw [if_pos (by omega)] | rw [if_neg (by omega)])
      rw [e1]
      exact hR
    rw [fb_ct_succ] at e2
    cases hv : TS m st c
    · rw [hv, if_neg (by decide), Nat.add_zero] at e2
      refine ⟨S2, body _ ?_, f1.tr f2⟩
      rw [hv, bp_s, bI_f, if_pos (by rfl), rv_lt, z1, nI_add, e2, ktl, hv, if_neg (show ¬ false = true by decide)]
    · rw [hv, if_pos rfl] at e2
      by_cases c2 : nI (fb_ct (TS m st) c) = x
      · have nx1 : ¬ x = iM := fun z => by
          rw [← c2, z_eqM (by omega)] at z
          exact z
        refine ⟨S1, body _ ?_, f1⟩
        rw [hv, bp_s, bI_t, if_neg (by decide), if_pos c2, if_neg nx1, ktl, hv, if_pos rfl, if_pos c2]
      · refine ⟨S2, body _ ?_, f1.tr f2⟩
        rw [hv, bp_s, bI_t, if_neg (by decide), if_neg c2, rv_lt, rv_lt, z1, nI_add, nI_add, e2, ktl, hv, if_pos rfl, if_neg c2]
end
