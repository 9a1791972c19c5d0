/-! THE SEARCH: the reference's, head by head -/
section
variable {n : Nat} {S : rvS} {m : Nat → Nat} {s0 : St}
/-- no answer at head h before J -/
def NR (m : Nat → Nat) (x2 x3 : Int32) (c : Cf) (h J : Nat) : Prop := ∀ j, j < J → (gok m (c.2.1 h) j → nI (cd j (ps m (c.2.1 h).1 (c.2.1 h).2)) ≠ x3) ∧ (gok m (c.2.1 h) j → inC (exl m h c j) (nx m (c.2.1 h) j) = false → nI j ≠ x2)
theorem exl_Q {h : Nat} {c : Cf} (hh : h < c.1) (j : Nat) : (exl m h c j).2.1 h = c.2.1 h := ((exl_ext h c j).2 h hh).1
theorem exl_cap (hk : okm m) (h0 : s0.2.length ≤ vN m) {h : Nat} {c : Cf} (hh : h < c.1) (hb : BI m s0 c) {j : Nat} (hj : j ≤ vW m) : (exl m h c j).1 ≤ 255640 := BI_cap hk (exl_BI hk hh hb j hj) h0
theorem m_head (hn : 10 ≤ n) (hB : rv_B S) (hM : MR S m) (hk : okm m) (h0 : s0.2.length ≤ vN m) {c : Cf} (hb : BI m s0 c) (hQ : RQ S c) {h : Nat} (hh : h < c.1) (x2 x3 : Int32) (K : Nat → Int32 → Int32 → Int32 → rvS → Option (Int32 × rvS)) : ∀ J, J ≤ vW m → NR m x2 x3 c h J → ∀ q, ∃ S', cX13_reach_72 n K (q + J) S 189 x2 x3 (nI h) (nI 0) = cX13_reach_72 n K q S' 189 x2 x3 (nI h) (nI J) ∧ rvf RD S S' ∧ RQ S' (exl m h c J) := by
  intro J
  induction J with
  | zero => intro _ _ q; exact ⟨S, rfl, rvf.rf _ _, hQ⟩
  | succ J ih =>
    intro hJ hnr q
    obtain ⟨S1, e1, f1, Q1⟩ := ih (by omega) (fun j hj => hnr j (by omega)) (q + 1)
    have hh1 : h < (exl m h c J).1 := Nat.lt_of_lt_of_le hh (exl_ext h c J).1
    have eq := exl_Q (m := m) hh J
    obtain ⟨-, -, st⟩ := m_rstep (q := q) hn (f1.B hB) (hM.f f1 rfl) hk (exl_BI hk hh hb J (by omega)) (exl_cap hk h0 hh hb (by omega)) Q1 hh1 (j := J) (by omega) x2 x3 K rfl
    rw [eq] at st
    obtain ⟨nr1, nr2⟩ := hnr J (by omega)
    obtain ⟨S2, e2, f2, Q2⟩ := st nr1 nr2
    refine ⟨S2, ?_, f1.tr f2, Q2⟩
    rw [show q + (J + 1) = q + 1 + J by omega, e1, e2]
theorem m_headE (hn : 30 ≤ n) (hB : rv_B S) (hM : MR S m) (hk : okm m) (h0 : s0.2.length ≤ vN m) {c : Cf} (hb : BI m s0 c) (hQ : RQ S c) {h q : Nat} (hh : h < c.1) (hc : c.1 ≤ 255640) (x2 x3 : Int32) (hnr : NR m x2 x3 c h (vW m)) : ∃ S', cX13_reach_60 n (q + 1) S 189 x2 x3 (nI h) = cX13_reach_60 n q S' 189 x2 x3 (nI (h + 1)) ∧ rvf RD S S' ∧ RQ S' (exl m h c (vW m)) := by
  have h24 := hk.1.1
  obtain ⟨S1, e1, f1, Q1⟩ := m_head (n := n) (by omega) hB hM hk h0 hb hQ hh x2 x3 (fun a0 x2 x3 x5 S => cX13_reach_60 n q S a0 x2 x3 x5) (vW m) (Nat.le_refl _) hnr (n - vW m)
  rw [show n - vW m + vW m = n by omega] at e1
  refine ⟨S1, ?_, f1, Q1⟩
  have hB1 := f1.B hB
  have hM1 := hM.f f1 rfl
  have q35 := hQ.1
  rw [cX13_reach_60]
  have c1 : ¬ nI c.1 ≤ nI h := by rw [n_le (by omega) (by omega)]; omega
  repeat (first | (conv => (lhs; arg 1; simp (disch := first | assumption | omega) only [tk_gI, tk_gL, tk_gR, tk_pI, tk_pL, rv_aI, rv_aL, rv_aR, rv_uI, rv_uL, rv_uB, rv_uZ, pu_ckI, pu_ckL, pu_lnI, pu_lnL, tk_rI, tk_rL, Option.bind_some, Option.map_some, rv_lt, tk_ix, rc_189 hB, q35])); first | rw [Option.bind_some] | rw [bp_s] | rw [if_true] | rw [if_false] | rw [rv_lt_eq] | rw [if_pos (by omega)] | rw [if_neg (by omega)])
  rw [z0, e1]
  obtain ⟨q', eq'⟩ : ∃ q', n - vW m = q' + 1 := ⟨n - vW m - 1, by omega⟩
  rw [eq', cX13_reach_72, rc_189 hB1, Option.bind_some, m_whos hB1 hM1, Option.bind_some, if_pos (show nI (vW m) ≤ nI (vW m) by rw [n_le (by omega) (by omega)]; omega), rv_lt, z1, nI_add]
theorem m_heads (hn : 30 ≤ n) (hB : rv_B S) (hM : MR S m) (hk : okm m) (hs0 : okS m s0) (h0 : s0.2.length ≤ vN m) (hQ : RQ S (bfs m s0 0)) (x2 x3 : Int32) : ∀ h, (∀ i, i < h → i < (bfs m s0 i).1 ∧ NR m x2 x3 (bfs m s0 i) i (vW m)) → ∀ q, ∃ S', cX13_reach_60 n (q + h) S 189 x2 x3 (nI 0) = cX13_reach_60 n q S' 189 x2 x3 (nI h) ∧ rvf RD S S' ∧ RQ S' (bfs m s0 h) ∧ BS m s0 h := by
  intro h
  induction h with
  | zero => intro _ q; exact ⟨S, rfl, rvf.rf _ _, hQ, BS_0 hs0⟩
  | succ h ih =>
    intro hnr q
    obtain ⟨S1, e1, f1, Q1, b1⟩ := ih (fun i hi => hnr i (by omega)) (q + 1)
    obtain ⟨hh, nr⟩ := hnr h (by omega)
    obtain ⟨S2, e2, f2, Q2⟩ := m_headE (q := q) hn (f1.B hB) (hM.f f1 rfl) hk h0 b1.1 Q1 hh (BI_cap hk b1.1 h0) x2 x3 nr
    refine ⟨S2, ?_, f1.tr f2, Q2, BS_s hk b1 hh⟩
    rw [show q + (h + 1) = q + 1 + h by omega, e1, e2]
/-- a search finds or ends -/
theorem bfs_end (hk : okm m) (hs0 : okS m s0) (h0 : s0.2.length ≤ vN m) (hit : Nat → Prop) : (∃ h, h < (bfs m s0 h).1 ∧ hit h ∧ BS m s0 h ∧ ∀ i, i < h → ¬ hit i ∧ i < (bfs m s0 i).1) ∨ ∃ T, (bfs m s0 T).1 = T ∧ BS m s0 T ∧ ∀ i, i < T → ¬ hit i ∧ i < (bfs m s0 i).1 := by
  have key : ∀ b, ((∃ h, h < (bfs m s0 h).1 ∧ hit h ∧ BS m s0 h ∧ ∀ i, i < h → ¬ hit i ∧ i < (bfs m s0 i).1) ∨ ∃ T, (bfs m s0 T).1 = T ∧ BS m s0 T ∧ ∀ i, i < T → ¬ hit i ∧ i < (bfs m s0 i).1) ∨ (BS m s0 b ∧ ∀ i, i < b → ¬ hit i ∧ i < (bfs m s0 i).1) := by
    intro b
    induction b with
    | zero => exact Or.inr ⟨BS_0 hs0, fun i hi => absurd hi (Nat.not_lt_zero i)⟩
    | succ b ih =>
      rcases ih with ih | ⟨ih, hn⟩
      · exact Or.inl ih
      · by_cases c : b < (bfs m s0 b).1
        · by_cases c2 : hit b
          · exact Or.inl (Or.inl ⟨b, c, c2, ih, hn⟩)
          · refine Or.inr ⟨BS_s hk ih c, fun i hi => ?_⟩
            by_cases e : i = b
            · rw [e]; exact ⟨c2, c⟩
            · exact hn i (by omega)
        · have := ih.2.2.2
          exact Or.inl (Or.inr ⟨b, by omega, ih, hn⟩)
  rcases key 255641 with h | ⟨h, -⟩
  · exact h
  · have h1 := BI_cap hk h.1 h0
    have h2 := h.2.2.2
    omega
end
