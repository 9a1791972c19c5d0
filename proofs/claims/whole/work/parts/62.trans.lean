/-! WHAT A CALL MAKES OF m, and that both sides follow -/
section
variable {n : Nat} {S : rvS} {m m' : Nat → Nat} {wd : Nat → List Nat}
theorem okp.c (h : okp m) (e : ∀ k, k < 132 → m' k = m k) : okp m' := by
  obtain ⟨h1, h2, h3, h4, h5, h6⟩ := h
  have e0 : vW m' = vW m := e 0 (by decide)
  refine ⟨by rw [e0]; exact h1, fun w hw => ?_, fun w hw => ?_, fun a b ha hb => ?_, fun v hv => ?_, fun a b ha hb => ?_⟩
  · rw [e0] at hw
    have : at_ m' w = at_ m w := e _ (by omega)
    rw [this]; exact h2 w hw
  · rw [e0] at hw
    have e1 : mt m' w = mt m w := e _ (by omega)
    have e2 : de m' w = de m w := e _ (by omega)
    have e3 : sg m' w = sg m w := e _ (by omega)
    rw [e0, e1, e2, e3]; exact h3 w hw
  · rw [e0] at ha hb
    have e1 : mt m' a = mt m a := e _ (by omega)
    have e2 : mt m' b = mt m b := e _ (by omega)
    rw [e1, e2]; exact h4 a b ha hb
  · have e1 : rd m' v = rd m v := e _ (by omega)
    rw [e1]; exact h5 v hv
  · have e1 : rd m' a = rd m a := e _ (by omega)
    have e2 : rd m' b = rd m b := e _ (by omega)
    unfold nr
    rw [e1, e2]; exact h6 a b ha hb
theorem okd.c (h : okd m) (h24 : vW m ≤ 24) (e : ∀ k, k < 132 → m' k = m k) (e2 : ∀ k, 372 ≤ k → m' k = m k) : okd m' := by
  obtain ⟨h1, h2, h3, h4, h5, h6, h7⟩ := h
  have e0 : vW m' = vW m := e 0 (by decide)
  have e3 : vD m' = vD m := e 2 (by decide)
  have e4 : vF m' = vF m := e 4 (by decide)
  have e5 : vL m' = vL m := e 5 (by decide)
  have e6 : m' 6 = m 6 := e 6 (by decide)
  refine ⟨by rw [e3]; exact h1, by rw [e4]; exact h2, by rw [e4]; exact h3, by rw [e5]; exact h4, by rw [e6]; exact h5, by rw [e6, e0]; exact h6, fun k hk => ?_⟩
  rw [e3] at hk
  have g : ∀ i, db m' k i = db m k i := fun i => e2 _ (by omega)
  rw [g, g, g, g, e0]
  exact h7 k hk
theorem sh_c (e : ∀ k, k < 132 → m' k = m k) {a b : Nat} (ha : a < 24) : sh m' a b = sh m a b := by
  unfold sh
  have e1 : mt m' a = mt m a := e _ (by omega)
  rw [e1]
theorem wy_c (h24 : vW m ≤ 24) (e : ∀ k, k < 132 → m' k = m k) {o w : Nat} {l : List Nat} (hat : at_ m w < 4) (ho : o < 24) (hw : w < 24) : wy m' o l w = wy m o l w := by
  unfold wy
  have e1 : de m' w = de m w := e _ (by omega)
  have e2 : at_ m' w = at_ m w := e _ (by omega)
  have e3 : at_ m' o = at_ m o := e _ (by omega)
  have e4 : rd m' (at_ m w) = rd m (at_ m w) := e _ (by omega)
  have e5 : (fun x => sh m' w x) = (fun x => sh m w x) := funext fun x => sh_c e hw
  unfold nr
  rw [e1, e2, e3, e4, sh_c e hw, e5]
theorem gs_c (hp : okp m) (e : ∀ k, k < 132 → m' k = m k) {o : Nat} {l : List Nat} (ho : o < 24) : gs m' o l = gs m o l := by
  have e0 : vW m' = vW m := e 0 (by decide)
  have h1 := hp.1
  unfold gs
  rw [e0]
  exact bs_cong fun w hw => by rw [wy_c hp.1 e (hp.2.1 w hw) ho (by omega)]
theorem FR.c {f : Nat} (h : FR S f m) (hp : okp m) (e : ∀ k, k < 132 → m' k = m k) : FR S f m' := by
  obtain ⟨a1, a2, a3, a4, a5, a6, a7, a8⟩ := h
  have h24 := hp.1
  have e0 : vW m' = vW m := e 0 (by decide)
  refine ⟨by rw [e0]; exact a1, ?_, ?_, fun w hw => ?_, fun w hw => ?_, fun w hw => ?_, fun j hj => ?_, fun j hj => ?_⟩
  · rw [e0, a2]
    exact congrArg nI (bs_cong fun w hw => by rw [show de m' w = de m w from e _ (by omega)])
  · rw [e0, a3]
    exact congrArg nI (bs_cong fun w hw => by rw [show sg m' w = sg m w from e _ (by omega)])
  · rw [e0] at hw
    rw [show at_ m' w = at_ m w from e _ (by omega)]; exact a4 w hw
  · rw [e0] at hw
    unfold hs
    rw [show mt m' w = mt m w from e _ (by omega)]; exact a5 w hw
  · rw [e0] at hw
    rw [show ea m' w = ea m w from e _ (by omega)]; exact a6 w hw
  · rw [show rd m' j = rd m j from e _ (by omega)]; exact a7 j hj
  · rw [a8 j hj]
    unfold rc
    rw [e0]
    exact congrArg nI (bs_cong fun w hw => by
      unfold nr
      rw [show at_ m' w = at_ m w from e _ (by omega), show de m' w = de m w from e _ (by omega), show rd m' j = rd m j from e _ (by omega)])
theorem DR.c {v : Nat} (h : DR S v m) (hd : vD m ≤ 12) (e : ∀ k, k < 132 → m' k = m k) (e2 : ∀ k, 372 ≤ k → m' k = m k) : DR S v m' := by
  obtain ⟨c1, c2, c3, c4, c5, c6, c7⟩ := h
  have e3 : vD m' = vD m := e 2 (by decide)
  have g : ∀ k i, db m' k i = db m k i := fun k i => e2 _ (by omega)
  refine ⟨by rw [e3]; exact c1, ?_, by rw [show vF m' = vF m from e 4 (by decide)]; exact c3, by rw [show vL m' = vL m from e 5 (by decide)]; exact c4, fun k hk => ?_, fun k hk => ?_, fun k hk => ?_⟩
  · rw [e3, c2]
    exact congrArg nI (bs_cong fun k _ => by rw [g])
  · rw [e3] at hk; rw [g]; exact c5 k hk
  · rw [e3] at hk; rw [g]; exact c6 k hk
  · rw [e3] at hk; rw [g]; exact c7 k hk
/-! a coin that goes -/
theorem mv_lo {c : Nat} (w : Nat) : ∀ k, k < 132 → mv m c w k = m k := fun k hk => if_neg (by omega)
theorem mv_hi {c : Nat} (hc : c < 40) (w : Nat) : ∀ k, 372 ≤ k → mv m c w k = m k := fun k hk => if_neg (by omega)
theorem mv_va (c w : Nat) (d : Nat) : va (mv m c w) d = va m d := if_neg (by omega)
theorem mv_ow (c w : Nat) : ow (mv m c w) c = w := by
  show (if 133 + 6 * c ≤ 133 + 6 * c ∧ 133 + 6 * c < 138 + 6 * c then _ else _) = w
  rw [if_pos (by omega), Nat.sub_self]
  rfl
theorem mv_off {c d : Nat} (w : Nat) (h : d ≠ c) : ow (mv m c w) d = ow m d ∧ mn (mv m c w) d = mn m d ∧ ∀ i, i < 3 → rm (mv m c w) d i = rm m d i := ⟨if_neg (by omega), if_neg (by omega), fun i hi => if_neg (by omega)⟩
theorem mv_rl_off {c d : Nat} (w : Nat) (h : d ≠ c) : rl (mv m c w) d = rl m d := by
  obtain ⟨-, h2, h3⟩ := mv_off (m := m) w h
  unfold rl
  rw [h2, h3 0 (by decide), h3 1 (by decide), h3 2 (by decide)]
theorem mv_rl (hN : vN m ≤ 3) {c : Nat} (hn : mn m c ≤ vN m) (w : Nat) : mn (mv m c w) c = (ps m (ow m c) (rl m c)).length ∧ rl (mv m c w) c = ps m (ow m c) (rl m c) := by
  have e : ∀ i, i < 5 → mv m c w (133 + 6 * c + i) = pH (vN m) (fun i => m (133 + 6 * c + i)) w i := fun i hi => by
    rw [mv, if_pos (by omega), Nat.add_sub_cancel_left]
  have a0 : m (133 + 6 * c + 0) = ow m c := rfl
  have a1 : m (133 + 6 * c + 1) = mn m c := congrArg m (by omega)
  have a2 : m (133 + 6 * c + 2) = rm m c 0 := congrArg m (by omega)
  have a3 : m (133 + 6 * c + 3) = rm m c 1 := congrArg m (by omega)
  have a4 : m (133 + 6 * c + 4) = rm m c 2 := congrArg m (by omega)
  have b1 : mn (mv m c w) c = pN (vN m) (fun i => m (133 + 6 * c + i)) := by
    have := e 1 (by decide)
    rw [← show 134 + 6 * c = 133 + 6 * c + 1 by omega] at this
    exact this
  have b2 : rm (mv m c w) c 0 = if 0 < pN (vN m) (fun i => m (133 + 6 * c + i)) then ow m c else rm m c 0 := by
    have := e 2 (by decide)
    rw [show 133 + 6 * c + 2 = 135 + 6 * c + 0 by omega, pH, a0, a2] at this
    exact this
  have b3 : rm (mv m c w) c 1 = if 1 < pN (vN m) (fun i => m (133 + 6 * c + i)) then rm m c 0 else rm m c 1 := by
    have := e 3 (by decide)
    rw [show 133 + 6 * c + 3 = 135 + 6 * c + 1 by omega, pH, a2, a3] at this
    exact this
  have b4 : rm (mv m c w) c 2 = if 2 < pN (vN m) (fun i => m (133 + 6 * c + i)) then rm m c 1 else rm m c 2 := by
    have := e 4 (by decide)
    rw [show 133 + 6 * c + 4 = 135 + 6 * c + 2 by omega, pH, a3, a4] at this
    exact this
  have q : pN (vN m) (fun i => m (133 + 6 * c + i)) = if mn m c < vN m then mn m c + 1 else vN m := by
    show (if m (133 + 6 * c + 1) < vN m then m (133 + 6 * c + 1) + 1 else vN m) = _
    rw [a1]
  rw [q] at b1 b2 b3 b4
  unfold rl ps
  rw [b1, b2, b3, b4]
  have hv : vN m = 0 ∨ vN m = 1 ∨ vN m = 2 ∨ vN m = 3 := by omega
  have hm : mn m c = 0 ∨ mn m c = 1 ∨ mn m c = 2 ∨ mn m c = 3 := by omega
  rcases hv with e1 | e1 | e1 | e1 <;> rcases hm with e2 | e2 | e2 | e2 <;> first | omega | (rw [e1, e2]; simp)
theorem mv_okc (hc : okc m) {c w : Nat} (h : c < vC m) (hw : w < vW m) : okc (mv m c w) := by
  have hlo := fun k hk => mv_lo (m := m) (c := c) w k hk
  obtain ⟨h1, h2, h3⟩ := id hc
  have e0 : vW (mv m c w) = vW m := hlo 0 (by decide)
  have e1 : vC (mv m c w) = vC m := hlo 1 (by decide)
  have e3 : vN (mv m c w) = vN m := hlo 3 (by decide)
  refine ⟨by rw [e1]; exact h1, by rw [e3]; exact h2, fun d hd => ?_⟩
  rw [e1] at hd
  rw [e0, e3, mv_va]
  by_cases g : d = c
  · subst g
    obtain ⟨q1, q2⟩ := mv_rl (w := w) h2 (h3 d h).2.2.2.1
    obtain ⟨p1, p2⟩ := ps_ok hc (h3 d h).2.2.1 (hc.l h)
    have hlen : (ps m (ow m d) (rl m d)).length ≤ vN m := by rw [ps, List.length_take]; omega
    refine ⟨(h3 d h).1, (h3 d h).2.1, by rw [mv_ow]; exact hw, by rw [q1]; exact hlen, fun i hi => ?_⟩
    have hm3 : mn (mv m d w) d ≤ 3 := by rw [q1]; omega
    have := rl_get hm3 hi
    rw [q2] at this
    exact p2 _ (List.mem_of_getElem? this)
  · obtain ⟨q1, q2, q3⟩ := mv_off (m := m) w g
    obtain ⟨r1, r2, r3, r4, r5⟩ := h3 d hd
    refine ⟨r1, r2, by rw [q1]; exact r3, by rw [q2]; exact r4, fun i hi => ?_⟩
    rw [q2] at hi
    rw [q3 i (by omega)]
    exact r5 i hi
theorem mv_okm (hk : okm m) {c w : Nat} (h : c < vC m) (hw : w < vW m) : okm (mv m c w) := by
  obtain ⟨hp, hc, hd⟩ := hk
  have h40 := hc.1
  exact ⟨hp.c (mv_lo w), mv_okc hc h hw, hd.c hp.1 (mv_lo w) (mv_hi (by omega) w)⟩
theorem mv_PR {p : Nat} (hP : PR S p m) (hc : okc m) {c w : Nat} (h : c < vC m) : PR (rv_sI (rv_sI S (p + 3) c (nI (rb (ps m (ow m c) (rl m c))))) (p + 2) c (nI w)) p (mv m c w) := by
  have hlo := fun k hk => mv_lo (m := m) (c := c) w k hk
  obtain ⟨h1, h2, h3⟩ := id hc
  obtain ⟨b1, b2, b3, b4, b5⟩ := hP
  have e1 : vC (mv m c w) = vC m := hlo 1 (by decide)
  have e3 : vN (mv m c w) = vN m := hlo 3 (by decide)
  obtain ⟨q1, q2⟩ := mv_rl (w := w) h2 (h3 c h).2.2.2.1
  refine ⟨?_, ?_, fun d hd => ?_, fun d hd => ?_, fun d hd => ?_⟩
  · rw [rv_sI_a _ _ _ (by omega), rv_sI_a _ _ _ (by omega), e1]; exact b1
  · rw [rv_sI_a _ _ _ (by omega), rv_sI_a _ _ _ (by omega), e3]; exact b2
  · rw [e1] at hd
    rw [rv_sI_a _ _ _ (by omega), rv_sI_a _ _ _ (by omega), mv_va]; exact b3 d hd
  · rw [e1] at hd
    by_cases g : d = c
    · subst g
      rw [rv_sI_eq, mv_ow]
    · rw [rv_sI_k _ _ g, rv_sI_a _ _ _ (by omega), (mv_off (m := m) w g).1]; exact b4 d hd
  · rw [e1] at hd
    by_cases g : d = c
    · subst g
      rw [rv_sI_a _ _ _ (by omega), rv_sI_eq, q2]
    · rw [rv_sI_a _ _ _ (by omega), rv_sI_k _ _ g, mv_rl_off w g]; exact b5 d hd
/-- what both sides hold, out of the class's valley and the reference's row apart -/
theorem VI.mk {S' : rvS} (hB : rv_B S') (hR : CR S' 67 m) (hL : MRL S' m) (hk : okm m) (h1 : NC S' 67 m wd) (h2 : NM S' m wd) (h3 : okw m wd) : VI S' m wd := ⟨hB, hR, hL, hk, h1, h2, h3⟩
theorem okw.c (h : okw m wd) (e : m' 6 = m 6) : okw m' wd := fun w hw => h w (by rw [← e]; exact hw)
/-- the class has made m' of m at S1, the reference at S4 -/
theorem QS.two {D1 D2 : List Nat} {S1 S4 : rvS} (hV : VI S m wd) (f1 : rvf D1 S S1) (fz : rvf D2 S1 S4) (h1 : [72, 191, 195].all (fun a => !D1.elem a) = true) (h2 : [67, 68, 69, 70, 71, 72, 73, 74, 75, 76, 77, 78, 84, 85, 86, 195].all (fun a => !D2.elem a) = true) (h3 : D1.all (fun d => DV.elem d) = true) (h4 : D2.all (fun d => DV.elem d) = true) (hR1 : CR S1 67 m') (hM4 : MR S4 m') (hb4 : ¬ S4.2.1 189 22 = 0) (hk' : okm m') (e0 : m' 0 = m 0) (e6 : m' 6 = m 6) (r4 : R42 S1 S4) : QS S S4 m' wd := by
  obtain ⟨hB, -, -, -, hNC, hNM, hok⟩ := hV
  have g1 : ∀ a, a ∈ [72, 191, 195] → D1.elem a = false := fun a ha => by
    have := List.all_eq_true.mp h1 a ha
    simpa using this
  have g2 : ∀ a, a ∈ [67, 68, 69, 70, 71, 72, 73, 74, 75, 76, 77, 78, 84, 85, 86, 195] → D2.elem a = false := fun a ha => by
    have := List.all_eq_true.mp h2 a ha
    simpa using this
  refine ⟨⟨fz.B (f1.B hB), ?_, MRL.of hM4 hb4, hk', fun u hu => ?_, fun u hu => ?_, hok.c e6⟩, (f1.mono h3).tr (fz.mono h4), (R42.of f1 (g1 191 (by decide))).tr r4⟩
  · refine hR1.f fz (Or.inl rfl) (Or.inl (List.all_eq_true.mpr fun a ha => ?_)) (Or.inr (by decide)) (Or.inr (by decide)) (Or.inr (by decide))
    have e : a ∈ [67, 68, 69, 70, 71, 72, 73, 74, 75, 76, 77, 78, 84, 85, 86, 195] := by
      simp only [List.mem_cons, List.not_mem_nil, or_false] at ha ⊢
      omega
    rw [g2 a e]; rfl
  · rw [fz.rowL (a := 67 + 5) rfl (g2 72 (by decide)), f1.rowL (a := 67 + 5) rfl (g1 72 (by decide)), e6]
    rw [show vW m' = vW m from e0] at hu
    exact hNC u hu
  · rw [fz.rowL (a := 195) rfl (g2 195 (by decide)), f1.rowL (a := 195) rfl (g1 195 (by decide))]
    rw [e6] at hu
    exact hNM u hu
theorem op_pay (hn : 500 ≤ n) (hV : VI S m wd) (x y : Int32) : ∃ r S1 S' m', fnX12_pay n S 64 x y = some (r, S1) ∧ fnX13_pay n S1 189 x y = some (r, S') ∧ QS S S' m' wd := by
  obtain ⟨hB, hR, hL, hk, -⟩ := id hV; have hp := hk.1; have hc := hk.2.1; have hd := hk.2.2; obtain ⟨S6, e6, hB6, f6, hM6, r6, b6⟩ := start_ok hn hB hL; have hC := CS_of hB; have hv : vb 67 := Or.inl rfl; have hVS := VS_of hB hv; have hFS := FS_of hB hv.f; have hPS := PS_of hB hv.p; have h24 := hp.1; have h40 := hc.1; have n10 : 10 ≤ n := (by omega); have n50 : 50 ≤ n := (by omega)
  have same : ∀ {r : Int32}, fnX12_pay n S 64 x y = some (r, S) → (∃ S', fnX13_pay n S 189 x y = some (r, S') ∧ QS S S' m wd) → ∃ r S1 S' m', fnX12_pay n S 64 x y = some (r, S1) ∧ fnX13_pay n S1 189 x y = some (r, S') ∧ QS S S' m' wd := fun h1 ⟨S', h2, h3⟩ => ⟨_, S, S', m, h1, h2, h3⟩
  rcases rng x (N := vC m) (by omega) with ⟨c, h, rfl⟩ | hx
  · rcases rng y (N := vW m) (by omega) with ⟨w, hw, rfl⟩ | hy
    · have g1 := wy_le m (ow m c) (rl m c) w
      by_cases c1 : wy m (ow m c) (rl m c) w = 0
      · obtain ⟨hF, hP, hD⟩ := id hR
        have kw := k9_whyNot n10 hB hv hR hk h hw
        rw [c1] at kw
        have km := k_move (n := n) hPS hP hp hc h (nI w)
        have f1 : rvf [77, 78] S (rv_sI (rv_sI S (67 + 8 + 3) c (nI (rb (ps m (ow m c) (rl m c))))) (67 + 8 + 2) c (nI w)) := ((rvf.rf _ _).w rfl rfl).w rfl rfl
        have hP1 := mv_PR (w := w) hP hc h
        obtain ⟨S1, eS1⟩ : ∃ S1, S1 = rv_sI (rv_sI S (67 + 8 + 3) c (nI (rb (ps m (ow m c) (rl m c))))) (67 + 8 + 2) c (nI w) := ⟨_, rfl⟩
        rw [← eS1] at km f1 hP1
        have hB1 := f1.B hB
        obtain ⟨S2, e2, hB2, f2, hM2, r2, b2⟩ := start_ok hn hB1 (hL.f f1 rfl rfl)
        obtain ⟨S3, e3, f3, -⟩ := m_why n10 hB2 hM2 hp hc h hw
        have hB3 := f3.B hB2
        have hM3 := hM2.f f3 rfl
        rw [c1] at e3
        obtain ⟨S4, e4, f4, hM4, r4⟩ := m_goes n10 hB3 hM3 hc h w
        have fz : rvf [189000, 189022, 191, 199] S1 S4 := (f2.mono rfl).tr ((f3.mono rfl).tr (f4.mono rfl))
        have hb4 : ¬ S4.2.1 189 22 = 0 := by rw [f4.at (a := 189) (k := 22) rfl, f3.at (a := 189) (k := 22) rfl]; exact b2
        have q : CR S1 67 (mv m c w) := by
          have hCs : FR S1 (67 + 1) m ∧ DR S1 67 m := by
            rw [eS1]
            exact ⟨hF, hD⟩
          exact ⟨hCs.1.c hp (mv_lo w), hP1, hCs.2.c hd.1 (mv_lo w) (mv_hi (by omega) w)⟩
        refine ⟨nI 0, S1, S4, mv m c w, ?_, ?_, QS.two hV f1 fz rfl rfl rfl rfl q hM4 hb4 (mv_okm hk h hw) (mv_lo w 0 (by decide)) (mv_lo w 6 (by decide)) (r2.tr ((R42.of f3 rfl).tr r4))⟩
        · simp (disch := first | assumption | omega) only [fnX12_pay, cX12_pay_29, tk_gI, tk_gL, tk_gR, tk_pI, tk_pL, rv_aI, rv_aL, rv_aR, rv_uI, rv_uL, rv_uB, rv_uZ, pu_ckI, pu_ckL, pu_lnI, pu_lnL, tk_rI, tk_rL, Option.bind_some, Option.map_some, rv_lt, tk_ix, z0, z1, z2, z3, z4, z5, z6, z7, z8, z9, z10, z11, z12, z13, z15, z16, z17, z18, z20, z21, z23, z24, z25, z31, z32, z39, z40, z41, z46, z48, z50, z57, z59, z60, z61, z62, z63, z64, z97, z98, z99, z100, z101, z102, z103, z104, z105, z106, z107, z108, z109, z110, z111, z112, z113, z114, z115, z116, z117, z118, z119, z120, z121, z122, z128, z132, z200, z240, z255, z372, z390625, z400, z420, z421, z422, z662, z900, z940, z999, z1000, z1024, z2000, z5860, z10000, z12345, z15625, z266240, z1048575, z1064960, z1103515245, z_m1, n_le, n_lt, n_eq, n_bit0, n_bit1, n_sbit0, n_shl, z_ltM, z_Mlt, z_leM, z_Mle, z_eqM, z_Meq, bI0, bI1, bI_01, bI_01t, bI_10, bI_10f, if_true, if_false, eq_self, reduceCtorEq, if_pos, if_neg, hC, hVS, hPS, k_isCoin hB hR hk h, k_isWho hB hR hk hw, kw, km]
        · simp (disch := first | assumption | omega) only [fnX13_pay, tk_gI, tk_gL, tk_gR, tk_pI, tk_pL, rv_aI, rv_aL, rv_aR, rv_uI, rv_uL, rv_uB, rv_uZ, pu_ckI, pu_ckL, pu_lnI, pu_lnL, tk_rI, tk_rL, Option.bind_some, Option.map_some, rv_lt, tk_ix, z0, z1, z2, z3, z4, z5, z6, z7, z8, z9, z10, z11, z12, z13, z15, z16, z17, z18, z20, z21, z23, z24, z25, z31, z32, z39, z40, z41, z46, z48, z50, z57, z59, z60, z61, z62, z63, z64, z97, z98, z99, z100, z101, z102, z103, z104, z105, z106, z107, z108, z109, z110, z111, z112, z113, z114, z115, z116, z117, z118, z119, z120, z121, z122, z128, z132, z200, z240, z255, z372, z390625, z400, z420, z421, z422, z662, z900, z940, z999, z1000, z1024, z2000, z5860, z10000, z12345, z15625, z266240, z1048575, z1064960, z1103515245, z_m1, n_le, n_lt, n_eq, n_bit0, n_bit1, n_sbit0, n_shl, z_ltM, z_Mlt, z_leM, z_Mle, z_eqM, z_Meq, bI0, bI1, bI_01, bI_01t, bI_10, bI_10f, if_true, if_false, eq_self, reduceCtorEq, if_pos, if_neg, rc_189 hB1, e2, rc_189 hB2, m_isCoin hB2 hM2 hc h, m_isWho hB2 hM2 hp hw, e3, bp_s, rc_189 hB3, e4]
      · obtain ⟨S', e, f, -⟩ := m_why n10 hB6 hM6 hp hc h hw
        refine same (r := nI (wy m (ow m c) (rl m c) w)) ?_ ⟨S', ?_, QS.st hV f6 hM6 r6 b6 f⟩
        · simp (disch := first | assumption | omega) only [fnX12_pay, cX12_pay_29, tk_gI, tk_gL, tk_gR, tk_pI, tk_pL, rv_aI, rv_aL, rv_aR, rv_uI, rv_uL, rv_uB, rv_uZ, pu_ckI, pu_ckL, pu_lnI, pu_lnL, tk_rI, tk_rL, Option.bind_some, Option.map_some, rv_lt, tk_ix, z0, z1, z2, z3, z4, z5, z6, z7, z8, z9, z10, z11, z12, z13, z15, z16, z17, z18, z20, z21, z23, z24, z25, z31, z32, z39, z40, z41, z46, z48, z50, z57, z59, z60, z61, z62, z63, z64, z97, z98, z99, z100, z101, z102, z103, z104, z105, z106, z107, z108, z109, z110, z111, z112, z113, z114, z115, z116, z117, z118, z119, z120, z121, z122, z128, z132, z200, z240, z255, z372, z390625, z400, z420, z421, z422, z662, z900, z940, z999, z1000, z1024, z2000, z5860, z10000, z12345, z15625, z266240, z1048575, z1064960, z1103515245, z_m1, n_le, n_lt, n_eq, n_bit0, n_bit1, n_sbit0, n_shl, z_ltM, z_Mlt, z_leM, z_Mle, z_eqM, z_Meq, bI0, bI1, bI_01, bI_01t, bI_10, bI_10f, if_true, if_false, eq_self, reduceCtorEq, hC, hVS, k_isCoin hB hR hk h, k_isWho hB hR hk hw, k9_whyNot n10 hB hv hR hk h hw, if_neg c1]
        · simp (disch := first | assumption | omega) only [fnX13_pay, tk_gI, tk_gL, tk_gR, tk_pI, tk_pL, rv_aI, rv_aL, rv_aR, rv_uI, rv_uL, rv_uB, rv_uZ, pu_ckI, pu_ckL, pu_lnI, pu_lnL, tk_rI, tk_rL, Option.bind_some, Option.map_some, rv_lt, tk_ix, z0, z1, z2, z3, z4, z5, z6, z7, z8, z9, z10, z11, z12, z13, z15, z16, z17, z18, z20, z21, z23, z24, z25, z31, z32, z39, z40, z41, z46, z48, z50, z57, z59, z60, z61, z62, z63, z64, z97, z98, z99, z100, z101, z102, z103, z104, z105, z106, z107, z108, z109, z110, z111, z112, z113, z114, z115, z116, z117, z118, z119, z120, z121, z122, z128, z132, z200, z240, z255, z372, z390625, z400, z420, z421, z422, z662, z900, z940, z999, z1000, z1024, z2000, z5860, z10000, z12345, z15625, z266240, z1048575, z1064960, z1103515245, z_m1, n_le, n_lt, n_eq, n_bit0, n_bit1, n_sbit0, n_shl, z_ltM, z_Mlt, z_leM, z_Mle, z_eqM, z_Meq, bI0, bI1, bI_01, bI_01t, bI_10, bI_10f, if_true, if_false, eq_self, reduceCtorEq, rc_189 hB, e6, rc_189 hB6, m_isCoin hB6 hM6 hc h, m_isWho hB6 hM6 hp hw, e, bp_s, if_neg c1]
    · refine same (r := iM) ?_ ⟨S6, ?_, QS.s0 hV f6 hM6 r6 b6⟩
      · simp (disch := first | assumption | omega) only [fnX12_pay, cX12_pay_28, cX12_pay_29, tk_gI, tk_gL, tk_gR, tk_pI, tk_pL, rv_aI, rv_aL, rv_aR, rv_uI, rv_uL, rv_uB, rv_uZ, pu_ckI, pu_ckL, pu_lnI, pu_lnL, tk_rI, tk_rL, Option.bind_some, Option.map_some, rv_lt, tk_ix, z0, z1, z2, z3, z4, z5, z6, z7, z8, z9, z10, z11, z12, z13, z15, z16, z17, z18, z20, z21, z23, z24, z25, z31, z32, z39, z40, z41, z46, z48, z50, z57, z59, z60, z61, z62, z63, z64, z97, z98, z99, z100, z101, z102, z103, z104, z105, z106, z107, z108, z109, z110, z111, z112, z113, z114, z115, z116, z117, z118, z119, z120, z121, z122, z128, z132, z200, z240, z255, z372, z390625, z400, z420, z421, z422, z662, z900, z940, z999, z1000, z1024, z2000, z5860, z10000, z12345, z15625, z266240, z1048575, z1064960, z1103515245, z_m1, n_le, n_lt, n_eq, n_bit0, n_bit1, n_sbit0, n_shl, z_ltM, z_Mlt, z_leM, z_Mle, z_eqM, z_Meq, bI0, bI1, bI_01, bI_01t, bI_10, bI_10f, if_true, if_false, eq_self, reduceCtorEq, hC, k_isCoin hB hR hk h, k_isWho0 hB hR hy]
      · simp (disch := first | assumption | omega) only [fnX13_pay, tk_gI, tk_gL, tk_gR, tk_pI, tk_pL, rv_aI, rv_aL, rv_aR, rv_uI, rv_uL, rv_uB, rv_uZ, pu_ckI, pu_ckL, pu_lnI, pu_lnL, tk_rI, tk_rL, Option.bind_some, Option.map_some, rv_lt, tk_ix, z0, z1, z2, z3, z4, z5, z6, z7, z8, z9, z10, z11, z12, z13, z15, z16, z17, z18, z20, z21, z23, z24, z25, z31, z32, z39, z40, z41, z46, z48, z50, z57, z59, z60, z61, z62, z63, z64, z97, z98, z99, z100, z101, z102, z103, z104, z105, z106, z107, z108, z109, z110, z111, z112, z113, z114, z115, z116, z117, z118, z119, z120, z121, z122, z128, z132, z200, z240, z255, z372, z390625, z400, z420, z421, z422, z662, z900, z940, z999, z1000, z1024, z2000, z5860, z10000, z12345, z15625, z266240, z1048575, z1064960, z1103515245, z_m1, n_le, n_lt, n_eq, n_bit0, n_bit1, n_sbit0, n_shl, z_ltM, z_Mlt, z_leM, z_Mle, z_eqM, z_Meq, bI0, bI1, bI_01, bI_01t, bI_10, bI_10f, if_true, if_false, eq_self, reduceCtorEq, rc_189 hB, e6, rc_189 hB6, m_isCoin hB6 hM6 hc h, m_isWho0 hB6 hM6 hy]
  · refine same (r := iM) ?_ ⟨S6, ?_, QS.s0 hV f6 hM6 r6 b6⟩
    · simp (disch := first | assumption | omega) only [fnX12_pay, cX12_pay_28, cX12_pay_29, tk_gI, tk_gL, tk_gR, tk_pI, tk_pL, rv_aI, rv_aL, rv_aR, rv_uI, rv_uL, rv_uB, rv_uZ, pu_ckI, pu_ckL, pu_lnI, pu_lnL, tk_rI, tk_rL, Option.bind_some, Option.map_some, rv_lt, tk_ix, z0, z1, z2, z3, z4, z5, z6, z7, z8, z9, z10, z11, z12, z13, z15, z16, z17, z18, z20, z21, z23, z24, z25, z31, z32, z39, z40, z41, z46, z48, z50, z57, z59, z60, z61, z62, z63, z64, z97, z98, z99, z100, z101, z102, z103, z104, z105, z106, z107, z108, z109, z110, z111, z112, z113, z114, z115, z116, z117, z118, z119, z120, z121, z122, z128, z132, z200, z240, z255, z372, z390625, z400, z420, z421, z422, z662, z900, z940, z999, z1000, z1024, z2000, z5860, z10000, z12345, z15625, z266240, z1048575, z1064960, z1103515245, z_m1, n_le, n_lt, n_eq, n_bit0, n_bit1, n_sbit0, n_shl, z_ltM, z_Mlt, z_leM, z_Mle, z_eqM, z_Meq, bI0, bI1, bI_01, bI_01t, bI_10, bI_10f, if_true, if_false, eq_self, reduceCtorEq, hC, k_isCoin0 hB hR hx]
    · simp (disch := first | assumption | omega) only [fnX13_pay, tk_gI, tk_gL, tk_gR, tk_pI, tk_pL, rv_aI, rv_aL, rv_aR, rv_uI, rv_uL, rv_uB, rv_uZ, pu_ckI, pu_ckL, pu_lnI, pu_lnL, tk_rI, tk_rL, Option.bind_some, Option.map_some, rv_lt, tk_ix, z0, z1, z2, z3, z4, z5, z6, z7, z8, z9, z10, z11, z12, z13, z15, z16, z17, z18, z20, z21, z23, z24, z25, z31, z32, z39, z40, z41, z46, z48, z50, z57, z59, z60, z61, z62, z63, z64, z97, z98, z99, z100, z101, z102, z103, z104, z105, z106, z107, z108, z109, z110, z111, z112, z113, z114, z115, z116, z117, z118, z119, z120, z121, z122, z128, z132, z200, z240, z255, z372, z390625, z400, z420, z421, z422, z662, z900, z940, z999, z1000, z1024, z2000, z5860, z10000, z12345, z15625, z266240, z1048575, z1064960, z1103515245, z_m1, n_le, n_lt, n_eq, n_bit0, n_bit1, n_sbit0, n_shl, z_ltM, z_Mlt, z_leM, z_Mle, z_eqM, z_Meq, bI0, bI1, bI_01, bI_01t, bI_10, bI_10f, if_true, if_false, eq_self, reduceCtorEq, rc_189 hB, e6, rc_189 hB6, m_isCoin0 hB6 hM6 hx]
end
