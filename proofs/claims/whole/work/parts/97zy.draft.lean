/-! VALLEY TEXTS: one cell of the draft changes -/
section
variable {n : Nat} {C R S : rvS} {b : Nat → Nat} {L M a : Nat} {T : Tk} {m m' : Nat → Nat} {wd : Nat → List Nat}
theorem okp.c8 (h : okp m) (e0 : m' 0 = m 0) (e : ∀ k, 8 ≤ k → k < 132 → m' k = m k) : okp m' := by
  obtain ⟨h1, h2, h3, h4, h5, h6⟩ := h
  have e0 : vW m' = vW m := e0
  refine ⟨by rw [e0]; exact h1, fun w hw => ?_, fun w hw => ?_, fun a b ha hb => ?_, fun v hv => ?_, fun a b ha hb => ?_⟩
  · rw [e0] at hw
    have : at_ m' w = at_ m w := e _ (by omega) (by omega)
    rw [this]; exact h2 w hw
  · rw [e0] at hw
    have e1 : mt m' w = mt m w := e _ (by omega) (by omega)
    have e2 : de m' w = de m w := e _ (by omega) (by omega)
    have e3 : sg m' w = sg m w := e _ (by omega) (by omega)
    rw [e0, e1, e2, e3]; exact h3 w hw
  · rw [e0] at ha hb
    have e1 : mt m' a = mt m a := e _ (by omega) (by omega)
    have e2 : mt m' b = mt m b := e _ (by omega) (by omega)
    rw [e1, e2]; exact h4 a b ha hb
  · have e1 : rd m' v = rd m v := e _ (by omega) (by omega)
    rw [e1]; exact h5 v hv
  · have e1 : rd m' a = rd m a := e _ (by omega) (by omega)
    have e2 : rd m' b = rd m b := e _ (by omega) (by omega)
    unfold nr
    rw [e1, e2]; exact h6 a b ha hb
theorem FR.c8 {f : Nat} (h : FR S f m) (hp : okp m) (e0 : m' 0 = m 0) (e : ∀ k, 8 ≤ k → k < 132 → m' k = m k) : FR S f m' := by
  obtain ⟨a1, a2, a3, a4, a5, a6, a7, a8⟩ := h
  have h24 := hp.1
  have e0 : vW m' = vW m := e0
  refine ⟨by rw [e0]; exact a1, ?_, ?_, fun w hw => ?_, fun w hw => ?_, fun w hw => ?_, fun j hj => ?_, fun j hj => ?_⟩
  · rw [e0, a2]
    exact congrArg nI (bs_cong fun w hw => by rw [show de m' w = de m w from e _ (by omega) (by omega)])
  · rw [e0, a3]
    exact congrArg nI (bs_cong fun w hw => by rw [show sg m' w = sg m w from e _ (by omega) (by omega)])
  · rw [e0] at hw
    rw [show at_ m' w = at_ m w from e _ (by omega) (by omega)]; exact a4 w hw
  · rw [e0] at hw
    unfold hs
    rw [show mt m' w = mt m w from e _ (by omega) (by omega)]; exact a5 w hw
  · rw [e0] at hw
    rw [show ea m' w = ea m w from e _ (by omega) (by omega)]; exact a6 w hw
  · rw [show rd m' j = rd m j from e _ (by omega) (by omega)]; exact a7 j hj
  · rw [a8 j hj]
    unfold rc
    rw [e0]
    exact congrArg nI (bs_cong fun w hw => by
      unfold nr
      rw [show at_ m' w = at_ m w from e _ (by omega) (by omega), show de m' w = de m w from e _ (by omega) (by omega), show rd m' j = rd m j from e _ (by omega) (by omega)])
theorem okd.c9 (h : okd m) (e0 : m' 0 = m 0) (e2 : m' 2 = m 2) (e4 : 1 ≤ m' 4 ∧ m' 4 ≤ 99) (e5 : m' 5 ≤ 2) (e6 : m' 6 = m 6) (e : ∀ k, 372 ≤ k → m' k = m k) : okd m' := by
  obtain ⟨h1, h2, h3, h4, h5, h6, h7⟩ := h
  have e0 : vW m' = vW m := e0
  have e2 : vD m' = vD m := e2
  refine ⟨by rw [e2]; exact h1, e4.1, e4.2, e5, by rw [e6]; exact h5, by rw [e6, e0]; exact h6, fun k hk => ?_⟩
  rw [e2] at hk
  have g : ∀ i, db m' k i = db m k i := fun i => e _ (by omega)
  rw [g, g, g, g, e0]
  exact h7 k hk
theorem FR.wx {f x k : Nat} {v : Int32} (h : FR S f m) (hx : x < f ∨ f + 6 < x) : FR (rv_sI S x k v) f m := by
  obtain ⟨a1, a2, a3, a4, a5, a6, a7, a8⟩ := h
  refine ⟨?_, ?_, ?_, fun w hw => ?_, fun w hw => ?_, fun w hw => ?_, fun j hj => ?_, fun j hj => ?_⟩ <;> rw [rv_sI_a _ _ _ (by omega)]
  · exact a1
  · exact a2
  · exact a3
  · exact a4 w hw
  · exact a5 w hw
  · exact a6 w hw
  · exact a7 j hj
  · exact a8 j hj
theorem PR.wx {p x k : Nat} {v : Int32} (h : PR S p m) (hx : x < p ∨ p + 3 < x) : PR (rv_sI S x k v) p m := by
  obtain ⟨b1, b2, b3, b4, b5⟩ := h
  refine ⟨?_, ?_, fun c hc => ?_, fun c hc => ?_, fun c hc => ?_⟩ <;> rw [rv_sI_a _ _ _ (by omega)]
  · exact b1
  · exact b2
  · exact b3 c hc
  · exact b4 c hc
  · exact b5 c hc
theorem DR.wx {y x k : Nat} {v : Int32} (h : DR S y m) (hx : x ≠ y ∧ (x < y + 17 ∨ y + 19 < x)) : DR (rv_sI S x k v) y m := by
  obtain ⟨c1, c2, c3, c4, c5, c6, c7⟩ := h
  refine ⟨?_, ?_, ?_, ?_, fun k hk => ?_, fun k hk => ?_, fun k hk => ?_⟩ <;> rw [rv_sI_a _ _ _ (by omega)]
  · exact c1
  · exact c2
  · exact c3
  · exact c4
  · exact c5 k hk
  · exact c6 k hk
  · exact c7 k hk
/-- the reference's read row changes in one place -/
theorem rd_u (h : ∀ k, k < 420 → R.2.1 192 k = nI (m k)) (k v : Nat) : ∀ j, j < 420 → (rv_sI R 192 k (nI v)).2.1 192 j = nI (u1 m k v j) := fun j hj => by
  by_cases c : j = k
  · subst c; rw [rv_sI_eq, u1_eq]
  · rw [rv_sI_k _ _ c, u1_ne _ _ c]; exact h j hj
theorem okv.same (h : okv m wd) (hk : okm m') (e0 : m' 0 = m 0) (e6 : m' 6 = m 6) (e : ∀ k, 8 + 5 * m 0 ≤ k → k < 128 → m' k = m k) : okv m' wd := by
  obtain ⟨-, h16, h6, hz, hw⟩ := h
  have e0 : vW m' = vW m := e0
  exact ⟨hk, by rw [e0]; exact h16, by rw [e6]; exact h6, fun k h1 h2 => by rw [e0] at h1; rw [e k h1 h2]; exact hz k h1 h2, fun w hw2 => by rw [e0] at hw2; exact hw w hw2⟩
/-- rim -/
theorem DRF.rim (h : DRF C R m wd) (h0 : vC m = 0) {v : Nat} (hv : v ≤ 3) : DRF (rv_sI C 95 1 (nI v)) (rv_sI R 192 3 (nI v)) (u1 m 3 v) wd := by
  obtain ⟨⟨hF, hP, hD⟩, d2, d3, d4, d5⟩ := h
  obtain ⟨hp, hc, hd⟩ := id d5.1
  have e : ∀ k, k ≠ 3 → u1 m 3 v k = m k := fun k hk => u1_ne _ _ hk
  have hP2 : PR (rv_sI C 95 1 (nI v)) 95 (u1 m 3 v) := by
    obtain ⟨b1, -, -⟩ := hP
    have b1 : C.2.1 95 0 = nI (vC m) := b1
    refine ⟨?_, ?_, fun c hc => ?_, fun c hc => ?_, fun c hc => ?_⟩
    · rw [rv_sI_k _ _ (by decide), show vC (u1 m 3 v) = vC m from e 1 (by decide)]; exact b1
    · rw [rv_sI_eq]; exact congrArg nI (u1_eq m 3 v).symm
    · rw [show vC (u1 m 3 v) = vC m from e 1 (by decide), h0] at hc; exact absurd hc (Nat.not_lt_zero c)
    · rw [show vC (u1 m 3 v) = vC m from e 1 (by decide), h0] at hc; exact absurd hc (Nat.not_lt_zero c)
    · rw [show vC (u1 m 3 v) = vC m from e 1 (by decide), h0] at hc; exact absurd hc (Nat.not_lt_zero c)
  have hk2 : okm (u1 m 3 v) := by
    refine ⟨hp.c8 (e 0 (by decide)) (fun k h1 h2 => e k (by omega)), ⟨?_, ?_, fun c hc => ?_⟩, hd.c9 (e 0 (by decide)) (e 2 (by decide)) (by rw [e 4 (by decide)]; exact ⟨hd.2.1, hd.2.2.1⟩) (by rw [e 5 (by decide)]; exact hd.2.2.2.1) (e 6 (by decide)) (fun k hk => e k (by omega))⟩
    · rw [show vC (u1 m 3 v) = vC m from e 1 (by decide)]; exact hc.1
    · show u1 m 3 v 3 ≤ 3
      rw [u1_eq]; exact hv
    · rw [show vC (u1 m 3 v) = vC m from e 1 (by decide), h0] at hc; exact absurd hc (Nat.not_lt_zero c)
  refine ⟨⟨(FR.wx hF (Or.inr (by decide))).c8 hp (e 0 (by decide)) (fun k h1 h2 => e k (by omega)), hP2, (DR.wx hD ⟨by decide, Or.inl (by decide)⟩).c2 (e 2 (by decide)) (e 4 (by decide)) (e 5 (by decide)) (fun k hk => e k (by omega))⟩, ?_, rd_u d3 3 v, ?_, d5.same hk2 (e 0 (by decide)) (e 6 (by decide)) (fun k h1 h2 => e k (by omega))⟩
  · rw [show vW (u1 m 3 v) = vW m from e 0 (by decide)]; exact d2
  · rw [show vW (u1 m 3 v) = vW m from e 0 (by decide)]; exact d4
/-- fee -/
theorem DRF.fee (h : DRF C R m wd) {v : Nat} (hv : 1 ≤ v ∧ v ≤ 99) : DRF (rv_sI C 87 8 (nI v)) (rv_sI R 192 4 (nI v)) (u1 m 4 v) wd := by
  obtain ⟨⟨hF, hP, hD⟩, d2, d3, d4, d5⟩ := h
  obtain ⟨hp, hc, hd⟩ := id d5.1
  have e : ∀ k, k ≠ 4 → u1 m 4 v k = m k := fun k hk => u1_ne _ _ hk
  have hD2 : DR (rv_sI C 87 8 (nI v)) 87 (u1 m 4 v) := by
    obtain ⟨c1, c2, c3, c4, c5, c6, c7⟩ := hD
    have g : ∀ k i, db (u1 m 4 v) k i = db m k i := fun k i => e _ (by omega)
    have eD : vD (u1 m 4 v) = vD m := e 2 (by decide)
    refine ⟨?_, ?_, ?_, ?_, fun k hk => ?_, fun k hk => ?_, fun k hk => ?_⟩
    · rw [rv_sI_k _ _ (by decide), eD]; exact c1
    · rw [rv_sI_k _ _ (by decide), eD, c2]
      exact congrArg nI (bs_cong fun k _ => by rw [g])
    · rw [rv_sI_eq]; exact congrArg nI (u1_eq m 4 v).symm
    · rw [rv_sI_k _ _ (by decide), show vL (u1 m 4 v) = vL m from e 5 (by decide)]; exact c4
    · rw [eD] at hk; rw [rv_sI_a _ _ _ (by decide), g]; exact c5 k hk
    · rw [eD] at hk; rw [rv_sI_a _ _ _ (by decide), g]; exact c6 k hk
    · rw [eD] at hk; rw [rv_sI_a _ _ _ (by decide), g]; exact c7 k hk
  have hk2 : okm (u1 m 4 v) := ⟨hp.c8 (e 0 (by decide)) (fun k h1 h2 => e k (by omega)), hc.c (e 0 (by decide)) (e 1 (by decide)) (e 3 (by decide)) (fun k h1 h2 => e k (by omega)), hd.c9 (e 0 (by decide)) (e 2 (by decide)) (by rw [u1_eq]; exact hv) (by rw [e 5 (by decide)]; exact hd.2.2.2.1) (e 6 (by decide)) (fun k hk => e k (by omega))⟩
  refine ⟨⟨(FR.wx hF (Or.inl (by decide))).c8 hp (e 0 (by decide)) (fun k h1 h2 => e k (by omega)), (PR.wx hP (Or.inl (by decide))).c hc.1 (e 1 (by decide)) (e 3 (by decide)) (fun k h1 h2 => e k (by omega)), hD2⟩, ?_, rd_u d3 4 v, ?_, d5.same hk2 (e 0 (by decide)) (e 6 (by decide)) (fun k h1 h2 => e k (by omega))⟩
  · rw [show vW (u1 m 4 v) = vW m from e 0 (by decide)]; exact d2
  · rw [show vW (u1 m 4 v) = vW m from e 0 (by decide)]; exact d4
/-- the law of dead names -/
theorem DRF.law (h : DRF C R m wd) {v : Nat} (hv : v ≤ 2) : DRF (rv_sI C 87 9 (nI v)) (rv_sI R 192 5 (nI v)) (u1 m 5 v) wd := by
  obtain ⟨⟨hF, hP, hD⟩, d2, d3, d4, d5⟩ := h
  obtain ⟨hp, hc, hd⟩ := id d5.1
  have e : ∀ k, k ≠ 5 → u1 m 5 v k = m k := fun k hk => u1_ne _ _ hk
  have hD2 : DR (rv_sI C 87 9 (nI v)) 87 (u1 m 5 v) := by
    obtain ⟨c1, c2, c3, c4, c5, c6, c7⟩ := hD
    have g : ∀ k i, db (u1 m 5 v) k i = db m k i := fun k i => e _ (by omega)
    have eD : vD (u1 m 5 v) = vD m := e 2 (by decide)
    refine ⟨?_, ?_, ?_, ?_, fun k hk => ?_, fun k hk => ?_, fun k hk => ?_⟩
    · rw [rv_sI_k _ _ (by decide), eD]; exact c1
    · rw [rv_sI_k _ _ (by decide), eD, c2]
      exact congrArg nI (bs_cong fun k _ => by rw [g])
    · rw [rv_sI_k _ _ (by decide), show vF (u1 m 5 v) = vF m from e 4 (by decide)]; exact c3
    · rw [rv_sI_eq]; exact congrArg nI (u1_eq m 5 v).symm
    · rw [eD] at hk; rw [rv_sI_a _ _ _ (by decide), g]; exact c5 k hk
    · rw [eD] at hk; rw [rv_sI_a _ _ _ (by decide), g]; exact c6 k hk
    · rw [eD] at hk; rw [rv_sI_a _ _ _ (by decide), g]; exact c7 k hk
  have hk2 : okm (u1 m 5 v) := ⟨hp.c8 (e 0 (by decide)) (fun k h1 h2 => e k (by omega)), hc.c (e 0 (by decide)) (e 1 (by decide)) (e 3 (by decide)) (fun k h1 h2 => e k (by omega)), hd.c9 (e 0 (by decide)) (e 2 (by decide)) (by rw [e 4 (by decide)]; exact ⟨hd.2.1, hd.2.2.1⟩) (by rw [u1_eq]; exact hv) (e 6 (by decide)) (fun k hk => e k (by omega))⟩
  refine ⟨⟨(FR.wx hF (Or.inl (by decide))).c8 hp (e 0 (by decide)) (fun k h1 h2 => e k (by omega)), (PR.wx hP (Or.inl (by decide))).c hc.1 (e 1 (by decide)) (e 3 (by decide)) (fun k h1 h2 => e k (by omega)), hD2⟩, ?_, rd_u d3 5 v, ?_, d5.same hk2 (e 0 (by decide)) (e 6 (by decide)) (fun k h1 h2 => e k (by omega))⟩
  · rw [show vW (u1 m 5 v) = vW m from e 0 (by decide)]; exact d2
  · rw [show vW (u1 m 5 v) = vW m from e 0 (by decide)]; exact d4
/-- a stranger -/
theorem DRF.str (h : DRF C R m wd) {w : Nat} (hw : w < vW m) : DRF (rv_sI C 88 2 (nI (bs (fun w => decide (0 < sg m w)) (vW m) ||| 2 ^ w))) (rv_sI R 192 (11 + 5 * w) (nI 1)) (u1 m (11 + 5 * w) 1) wd := by
  obtain ⟨⟨hF, hP, hD⟩, d2, d3, d4, d5⟩ := h
  obtain ⟨hp, hc, hd⟩ := id d5.1
  have h24 := hp.1
  have e : ∀ k, k ≠ 11 + 5 * w → u1 m (11 + 5 * w) 1 k = m k := fun k hk => u1_ne _ _ hk
  have eW : vW (u1 m (11 + 5 * w) 1) = vW m := e 0 (by omega)
  have esg : ∀ x, sg (u1 m (11 + 5 * w) 1) x = if x = w then 1 else sg m x := fun x => by
    by_cases c : x = w
    · rw [if_pos c, c]; exact u1_eq _ _ _
    · rw [if_neg c]; exact e _ (by omega)
  have eat : ∀ x, at_ (u1 m (11 + 5 * w) 1) x = at_ m x := fun x => e _ (by omega)
  have emt : ∀ x, mt (u1 m (11 + 5 * w) 1) x = mt m x := fun x => e _ (by omega)
  have ede : ∀ x, de (u1 m (11 + 5 * w) 1) x = de m x := fun x => e _ (by omega)
  have eea : ∀ x, ea (u1 m (11 + 5 * w) 1) x = ea m x := fun x => e _ (by omega)
  have erd : ∀ x, x < 4 → rd (u1 m (11 + 5 * w) 1) x = rd m x := fun x hx => e _ (by omega)
  have hF2 : FR (rv_sI C 88 2 (nI (bs (fun w => decide (0 < sg m w)) (vW m) ||| 2 ^ w))) 88 (u1 m (11 + 5 * w) 1) := by
    obtain ⟨a1, a2, a3, a4, a5, a6, a7, a8⟩ := hF
    refine ⟨?_, ?_, ?_, fun x hx => ?_, fun x hx => ?_, fun x hx => ?_, fun j hj => ?_, fun j hj => ?_⟩
    · rw [rv_sI_k _ _ (by decide), eW]; exact a1
    · rw [rv_sI_k _ _ (by decide), eW]
      refine a2.trans (congrArg nI (bs_cong fun x hx => by rw [ede]))
    · rw [rv_sI_eq, eW]
      refine congrArg nI (Nat.eq_of_testBit_eq fun i => ?_)
      rw [Nat.testBit_or, bs_bit, bs_bit, Nat.testBit_two_pow, esg]
      by_cases c : i = w
      · rw [if_pos c, decide_eq_true c.symm, Bool.or_true, decide_eq_true (show i < vW m by omega)]
        rfl
      · rw [if_neg c, decide_eq_false (p := w = i) (fun z => c z.symm), Bool.or_false]
    · rw [eW] at hx; rw [rv_sI_a _ _ _ (by decide), eat]; exact a4 x hx
    · rw [eW] at hx; rw [rv_sI_a _ _ _ (by decide)]; unfold hs; rw [emt]; exact a5 x hx
    · rw [eW] at hx; rw [rv_sI_a _ _ _ (by decide), eea]; exact a6 x hx
    · rw [rv_sI_a _ _ _ (by decide), erd j hj]; exact a7 j hj
    · rw [rv_sI_a _ _ _ (by decide)]
      refine (a8 j hj).trans ?_
      unfold rc nr
      rw [eW, erd j hj]
      exact congrArg nI (bs_cong fun x hx => by rw [eat, ede])
  have hk2 : okm (u1 m (11 + 5 * w) 1) := by
    obtain ⟨p1, p2, p3, p4, p5, p6⟩ := hp
    refine ⟨⟨by rw [eW]; exact p1, fun x hx => ?_, fun x hx => ?_, fun x y hx hy => ?_, fun v hv => ?_, fun x y hx hy => ?_⟩, hc.c (e 0 (by omega)) (e 1 (by omega)) (e 3 (by omega)) (fun k h1 h2 => e k (by omega)), hd.c9 (e 0 (by omega)) (e 2 (by omega)) (by rw [e 4 (by omega)]; exact ⟨hd.2.1, hd.2.2.1⟩) (by rw [e 5 (by omega)]; exact hd.2.2.2.1) (e 6 (by omega)) (fun k hk => e k (by omega))⟩
    · rw [eW] at hx; rw [eat]; exact p2 x hx
    · rw [eW] at hx ⊢
      rw [emt, ede, esg]
      obtain ⟨z1, z2, z3⟩ := p3 x hx
      refine ⟨z1, z2, ?_⟩
      split
      · exact Nat.le_refl 1
      · exact z3
    · rw [eW] at hx hy; rw [emt, emt]; exact p4 x y hx hy
    · rw [erd v hv]; exact p5 v hv
    · unfold nr; rw [erd x hx, erd y hy]; exact p6 x y hx hy
  refine ⟨⟨hF2, (PR.wx hP (Or.inl (by decide))).c hc.1 (e 1 (by omega)) (e 3 (by omega)) (fun k h1 h2 => e k (by omega)), (DR.wx hD ⟨by decide, Or.inl (by decide)⟩).c2 (e 2 (by omega)) (e 4 (by omega)) (e 5 (by omega)) (fun k hk => e k (by omega))⟩, ?_, rd_u d3 _ 1, ?_, d5.same hk2 (e 0 (by omega)) (e 6 (by omega)) (fun k h1 h2 => e k (by have : vW m = m 0 := rfl; omega))⟩
  · rw [eW]; exact d2
  · rw [eW]; exact d4
end
