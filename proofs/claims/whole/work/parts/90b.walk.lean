/-! TWO DAYS: the reference's walk -/
section
variable {e1 e2 : Nat → Bool} {d : Nat → Nat} {A T : Nat → Bool} {N X Y : Nat}
def ex (p : Nat → Bool) : Nat → Bool
  | 0 => false
  | k + 1 => ex p k || p k
theorem ex_iff {p : Nat → Bool} : ∀ {k : Nat}, ex p k = true ↔ ∃ t, t < k ∧ p t = true
  | 0 => ⟨fun z => absurd z nft, fun ⟨t, h, _⟩ => absurd h (Nat.not_lt_zero t)⟩
  | k + 1 => by
    rw [ex, Bool.or_eq_true, ex_iff]
    constructor
    · rintro (⟨t, h1, h2⟩ | h)
      · exact ⟨t, by omega, h2⟩
      · exact ⟨k, by omega, h⟩
    · rintro ⟨t, h1, h2⟩
      by_cases c : t = k
      · subst c; exact Or.inr h2
      · exact Or.inl ⟨t, by omega, h2⟩
abbrev WS := Nat × Nat × (Nat → Bool)
def gv (e1 e2 : Nat → Bool) (d : Nat → Nat) (N i : Nat) (w : WS) : Nat → Bool := fun t => decide (ddv e1 d i ≤ w.1) && (w.2.2 t && decide (tg e1 e2 d N (N - (i + 1)) (w.1 - ddv e1 d i) t + 1 = w.2.1))
def kp (e1 e2 : Nat → Bool) (d : Nat → Nat) (N i : Nat) (w : WS) : Nat → Bool := fun t => (w.2.2 t || (decide (t + ddv e2 d i < 100) && w.2.2 (t + ddv e2 d i))) && decide (tg e1 e2 d N (N - (i + 1)) w.1 t = w.2.1)
def wk (e1 e2 : Nat → Bool) (d : Nat → Nat) (N X Y : Nat) : Nat → WS
  | 0 => (X, tg e1 e2 d N N X Y, fun t => decide (t = Y))
  | i + 1 => if ex (gv e1 e2 d N i (wk e1 e2 d N X Y i)) 100 = true then ((wk e1 e2 d N X Y i).1 - ddv e1 d i, (wk e1 e2 d N X Y i).2.1 - 1, gv e1 e2 d N i (wk e1 e2 d N X Y i)) else ((wk e1 e2 d N X Y i).1, (wk e1 e2 d N X Y i).2.1, kp e1 e2 d N i (wk e1 e2 d N X Y i))
def Bk (e1 e2 : Nat → Bool) (d : Nat → Nat) (N X Y i : Nat) : Bool := ex (gv e1 e2 d N i (wk e1 e2 d N X Y i)) 100
theorem wk_s (i : Nat) : wk e1 e2 d N X Y (i + 1) = if Bk e1 e2 d N X Y i = true then ((wk e1 e2 d N X Y i).1 - ddv e1 d i, (wk e1 e2 d N X Y i).2.1 - 1, gv e1 e2 d N i (wk e1 e2 d N X Y i)) else ((wk e1 e2 d N X Y i).1, (wk e1 e2 d N X Y i).2.1, kp e1 e2 d N i (wk e1 e2 d N X Y i)) := by
  rw [wk, Bk]
theorem gv_iff {i t : Nat} {w : WS} : gv e1 e2 d N i w t = true ↔ ddv e1 d i ≤ w.1 ∧ w.2.2 t = true ∧ tg e1 e2 d N (N - (i + 1)) (w.1 - ddv e1 d i) t + 1 = w.2.1 := by
  unfold gv
  rw [Bool.and_eq_true, Bool.and_eq_true, decide_eq_true_eq, decide_eq_true_eq]
theorem kp_iff {i t : Nat} {w : WS} : kp e1 e2 d N i w t = true ↔ (w.2.2 t = true ∨ (t + ddv e2 d i < 100 ∧ w.2.2 (t + ddv e2 d i) = true)) ∧ tg e1 e2 d N (N - (i + 1)) w.1 t = w.2.1 := by
  unfold kp
  rw [Bool.and_eq_true, Bool.or_eq_true, Bool.and_eq_true, decide_eq_true_eq, decide_eq_true_eq]
theorem ddv_in {e : Nat → Bool} {i : Nat} (h : ddv e d i < 1000) : e i = true ∧ ddv e d i = d i := by
  cases c : e i
  · rw [ddv, c, if_neg nft] at h; omega
  · exact ⟨rfl, if_pos c⟩
def WI (e1 e2 : Nat → Bool) (d : Nat → Nat) (N X Y i : Nat) (w : WS) : Prop := (∀ t, w.2.2 t = true → t ≤ Y ∧ tg e1 e2 d N (N - i) w.1 t = w.2.1) ∧ (∃ t, w.2.2 t = true) ∧ fS d (Bk e1 e2 d N X Y) i + w.1 = X ∧ fb_ct (Bk e1 e2 d N X Y) i + w.2.1 = tg e1 e2 d N N X Y ∧ ∀ t, w.2.2 t = true → ∃ T, vp e1 e2 (Bk e1 e2 d N X Y) T i ∧ fS d T i + t = Y
theorem WI_0 : WI e1 e2 d N X Y 0 (wk e1 e2 d N X Y 0) := by
  refine ⟨fun t h => ?_, ⟨Y, decide_eq_true rfl⟩, Nat.zero_add X, Nat.zero_add _, fun t h => ⟨fun _ => false, fun k hk => absurd hk (Nat.not_lt_zero k), ?_⟩⟩
  · have h : t = Y := of_decide_eq_true h
    subst h
    exact ⟨Nat.le_refl _, rfl⟩
  · have h : t = Y := of_decide_eq_true h
    subst h
    exact Nat.zero_add t
theorem WI_s (hX : X ≤ 99) (hY : Y ≤ 99) {i : Nat} (hi : i < N) (h : WI e1 e2 d N X Y i (wk e1 e2 d N X Y i)) : WI e1 e2 d N X Y (i + 1) (wk e1 e2 d N X Y (i + 1)) := by
  rw [wk_s]
  obtain ⟨B, eB⟩ : ∃ B, B = Bk e1 e2 d N X Y := ⟨_, rfl⟩
  have hb : B i = ex (gv e1 e2 d N i (wk e1 e2 d N X Y i)) 100 := by rw [eB]; rfl
  unfold WI at h ⊢
  rw [← eB] at h ⊢
  generalize wk e1 e2 d N X Y i = w at *
  obtain ⟨s, r, l⟩ := w
  obtain ⟨i1, ⟨t1, i2⟩, i3, i4, i5⟩ := h
  dsimp only at i1 i2 i3 i4 i5
  have eN : N - i = (N - (i + 1)) + 1 := by omega
  have cS : fS d B (i + 1) = if B i = true then fS d B i + d i else fS d B i := by rw [fS, sm_s, ← fS]
  have cC : fb_ct B (i + 1) = if B i = true then fb_ct B i + 1 else fb_ct B i := ct_s B i
  rw [cS, cC]
  have cutT : ∀ T, vp e1 e2 B T i → (B i = true → e1 i = true) → vp e1 e2 B (fun k => T k && decide (k < i)) (i + 1) := fun T hT hbi k hk => by
    by_cases c : k < i
    · have g2 : (T k && decide (k < i)) = T k := cut_lt c
      show (B k = true → _) ∧ ((T k && decide (k < i)) = true → _ ∧ B k = false)
      rw [g2]; exact hT k c
    · have g2 : (T k && decide (k < i)) = false := cut_ge c
      have ek : k = i := by omega
      show (B k = true → _) ∧ ((T k && decide (k < i)) = true → _ ∧ B k = false)
      rw [g2, ek]; exact ⟨hbi, fun z => absurd z nft⟩
  cases c : B i
  · rw [if_neg nft, if_neg nft, if_neg nft]
    dsimp only
    have no : ∀ t, t < 100 → gv e1 e2 d N i (s, r, l) t = true → False := fun t h1 h2 => by
      have := ex_iff.mpr ⟨t, h1, h2⟩
      rw [← hb, c] at this
      exact nft this
    refine ⟨fun t h => ?_, ?_, i3, i4, fun t h => ?_⟩
    · obtain ⟨h1, h2⟩ := kp_iff.mp h
      refine ⟨?_, h2⟩
      rcases h1 with h1 | ⟨-, h1⟩
      · exact (i1 t h1).1
      · have := (i1 _ h1).1; omega
    · obtain ⟨a1, a2⟩ := i1 t1 i2
      rw [eN] at a2
      have w := (tg_w (e1 := e1) (e2 := e2) (d := d) (N := N) (k := N - (i + 1)) (x := s) (y := t1)).2.2.2
      rw [show N - (N - (i + 1) + 1) = i by omega, a2] at w
      rcases w with w | ⟨w1, w2⟩ | ⟨w1, w2⟩
      · exact ⟨t1, kp_iff.mpr ⟨Or.inl i2, w.symm⟩⟩
      · exact absurd (gv_iff.mpr ⟨w1, i2, w2.symm⟩) (fun z => no t1 (by omega) z)
      · refine ⟨t1 - ddv e2 d i, kp_iff.mpr ⟨Or.inr ⟨by omega, ?_⟩, w2.symm⟩⟩
        show l (t1 - ddv e2 d i + ddv e2 d i) = true
        rw [show t1 - ddv e2 d i + ddv e2 d i = t1 by omega]; exact i2
    · obtain ⟨h1, h2⟩ := kp_iff.mp h
      rcases h1 with h1 | ⟨h0, h1⟩
      · obtain ⟨T, q1, q2⟩ := i5 t h1
        exact ⟨_, cutT T q1 (fun z => absurd (c.symm.trans z) nft), by rw [fS_c0]; exact q2⟩
      · obtain ⟨T, q1, q2⟩ := i5 _ h1
        obtain ⟨d1, d2⟩ := ddv_in (e := e2) (d := d) (i := i) (by omega)
        refine ⟨fun k => T k || decide (i ≤ k), fun k hk => ?_, by rw [fS_c1]; omega⟩
        by_cases c' : k < i
        · have g2 : (T k || decide (i ≤ k)) = T k := add_lt c'
          show (B k = true → _) ∧ ((T k || decide (i ≤ k)) = true → _ ∧ B k = false)
          rw [g2]; exact q1 k c'
        · have ek : k = i := by omega
          rw [ek]
          exact ⟨fun z => absurd (c.symm.trans z) nft, fun _ => ⟨d1, c⟩⟩
  · rw [if_pos rfl, if_pos rfl, if_pos rfl]
    dsimp only
    rw [c] at hb
    obtain ⟨t0, h0, g0⟩ := ex_iff.mp hb.symm
    obtain ⟨g1, g2, g3⟩ := gv_iff.mp g0
    dsimp only at g1 g2 g3
    obtain ⟨d1, d2⟩ := ddv_in (e := e1) (d := d) (i := i) (by omega)
    refine ⟨fun t h => ?_, ⟨t0, g0⟩, by omega, by omega, fun t h => ?_⟩
    · obtain ⟨h1, h2, h3⟩ := gv_iff.mp h
      dsimp only at h1 h2 h3
      exact ⟨(i1 t h2).1, by omega⟩
    · obtain ⟨h1, h2, h3⟩ := gv_iff.mp h
      obtain ⟨T, q1, q2⟩ := i5 t h2
      exact ⟨_, cutT T q1 (fun _ => d1), by rw [fS_c0]; exact q2⟩
theorem WI_all (hX : X ≤ 99) (hY : Y ≤ 99) : ∀ i, i ≤ N → WI e1 e2 d N X Y i (wk e1 e2 d N X Y i)
  | 0, _ => WI_0
  | i + 1, h => WI_s hX hY (by omega) (WI_all hX hY i (by omega))
theorem wk_end (hX : X ≤ 99) (hY : Y ≤ 99) (h : tg e1 e2 d N N X Y < 10000) : fb_ct (Bk e1 e2 d N X Y) N = tg e1 e2 d N N X Y ∧ fS d (Bk e1 e2 d N X Y) N = X ∧ ∃ T, vp e1 e2 (Bk e1 e2 d N X Y) T N ∧ fS d T N = Y := by
  obtain ⟨i1, ⟨t, i2⟩, i3, i4, i5⟩ := WI_all (e1 := e1) (e2 := e2) (d := d) (N := N) hX hY N (Nat.le_refl N)
  obtain ⟨a1, a2⟩ := i1 t i2
  obtain ⟨T, q1, q2⟩ := i5 t i2
  rw [Nat.sub_self, tg] at a2
  by_cases c : (wk e1 e2 d N X Y N).1 + t = 0
  · rw [if_pos c] at a2
    exact ⟨by omega, by omega, T, q1, by omega⟩
  · rw [if_neg c] at a2; omega
theorem lex2 (hX : X ≤ 99) (hY : Y ≤ 99) (hN : N ≤ 40) (hA : vp e1 e2 A T N) : ∀ k, k ≤ N → ∀ t, (wk e1 e2 d N X Y (N - k)).2.2 t = true → sf (fun k => if A k then d k else 0) N k = (wk e1 e2 d N X Y (N - k)).1 → sf (fun k => if T k then d k else 0) N k = t → sf (cf A) N k = (wk e1 e2 d N X Y (N - k)).2.1 → sf (fun k => if A k then 2 ^ (39 - k) else 0) N k ≤ sf (fun k => if Bk e1 e2 d N X Y k then 2 ^ (39 - k) else 0) N k
  | 0, _, _, _, _, _, _ => Nat.le_refl _
  | k + 1, h, t, hl, h1, h2, h3 => by
    have ih := lex2 hX hY hN hA k (by omega)
    have lo := tg_low (d := d) hA k (by omega)
    have vt := vt_lt (A := A) hN k (by omega)
    obtain ⟨v1, v2⟩ := hA (N - (k + 1)) (by omega)
    obtain ⟨i1, -, i3, -, -⟩ := WI_all (e1 := e1) (e2 := e2) (d := d) (N := N) hX hY (N - (k + 1)) (by omega)
    obtain ⟨a1, a2⟩ := i1 t hl
    have ei : N - k = N - (k + 1) + 1 := by omega
    rw [ei, wk_s] at ih
    have hb : Bk e1 e2 d N X Y (N - (k + 1)) = ex (gv e1 e2 d N (N - (k + 1)) (wk e1 e2 d N X Y (N - (k + 1)))) 100 := rfl
    have et : N - (N - (k + 1)) = k + 1 := by omega
    have et2 : N - (N - (k + 1) + 1) = k := by omega
    rw [et] at a2
    have w := tg_w (e1 := e1) (e2 := e2) (d := d) (N := N) (k := k) (x := (wk e1 e2 d N X Y (N - (k + 1))).1) (y := t)
    generalize wk e1 e2 d N X Y (N - (k + 1)) = w0 at *
    obtain ⟨s, r, l⟩ := w0
    dsimp only at ih hl h1 h3 i3 a2 w
    rw [a2] at w
    rw [sf] at h1 h2 h3
    rw [sf, sf]
    rw [ei] at vt
    have e40 : 40 - (N - (k + 1) + 1) = 39 - (N - (k + 1)) := by omega
    rw [e40] at vt
    cases cb : Bk e1 e2 d N X Y (N - (k + 1))
    · rw [cb, if_neg nft] at ih
      dsimp only at ih
      cases ca : A (N - (k + 1))
      · rw [if_neg nft, Nat.zero_add, Nat.zero_add]
        rw [ca, if_neg nft, Nat.zero_add] at h1
        rw [cf, ca, if_neg nft, Nat.zero_add] at h3
        rw [h1, h3] at lo
        cases ct : T (N - (k + 1))
        · rw [ct, if_neg nft, Nat.zero_add] at h2
          rw [h2] at lo
          refine ih t (kp_iff.mpr ⟨Or.inl hl, ?_⟩) h1 h2 h3
          dsimp only
          rw [et2]
          have := w.1
          omega
        · obtain ⟨q1, q2⟩ := v2 ct
          rw [ct, if_pos rfl] at h2
          have eD : ddv e2 d (N - (k + 1)) = d (N - (k + 1)) := if_pos q1
          have w3 := w.2.2.1 (by rw [eD]; omega)
          rw [eD, show t - d (N - (k + 1)) = sf (fun k => if T k then d k else 0) N k by omega] at w3
          refine ih _ (kp_iff.mpr ⟨Or.inr ⟨by rw [eD]; omega, ?_⟩, ?_⟩) h1 rfl h3
          · dsimp only
            rw [eD, Nat.add_comm, h2]; exact hl
          · dsimp only
            rw [et2]
            omega
      · exfalso
        rw [ca, if_pos rfl] at h1
        rw [cf, ca, if_pos rfl] at h3
        have qf : T (N - (k + 1)) = false := by
          cases ct : T (N - (k + 1))
          · rfl
          · exact absurd ((v2 ct).2.symm.trans ca) nft
        rw [qf, if_neg nft, Nat.zero_add] at h2
        have eD : ddv e1 d (N - (k + 1)) = d (N - (k + 1)) := if_pos (v1 ca)
        have w3 := w.2.1 (by rw [eD]; omega)
        rw [eD, show s - d (N - (k + 1)) = sf (fun k => if A k then d k else 0) N k by omega] at w3
        rw [h2] at lo
        have : ex (gv e1 e2 d N (N - (k + 1)) (s, r, l)) 100 = true := ex_iff.mpr ⟨t, by omega, gv_iff.mpr ⟨by dsimp only; rw [eD]; omega, hl, by dsimp only; rw [eD, et2, show s - d (N - (k + 1)) = sf (fun k => if A k then d k else 0) N k by omega]; omega⟩⟩
        rw [← hb, cb] at this
        exact nft this
    · rw [cb, if_pos rfl] at ih
      dsimp only at ih
      rw [if_pos rfl]
      cases ca : A (N - (k + 1))
      · rw [if_neg nft]
        omega
      · rw [ca, if_pos rfl] at h1
        rw [cf, ca, if_pos rfl] at h3
        have qf : T (N - (k + 1)) = false := by
          cases ct : T (N - (k + 1))
          · rfl
          · exact absurd ((v2 ct).2.symm.trans ca) nft
        rw [qf, if_neg nft, Nat.zero_add] at h2
        have eD : ddv e1 d (N - (k + 1)) = d (N - (k + 1)) := if_pos (v1 ca)
        have w3 := w.2.1 (by rw [eD]; omega)
        rw [eD, show s - d (N - (k + 1)) = sf (fun k => if A k then d k else 0) N k by omega] at w3
        rw [h2] at lo
        rw [if_pos rfl]
        have := ih t (gv_iff.mpr ⟨by dsimp only; rw [eD]; omega, hl, by dsimp only; rw [eD, et2, show s - d (N - (k + 1)) = sf (fun k => if A k then d k else 0) N k by omega]; omega⟩) (by rw [eD]; omega) h2 (by omega)
        omega
theorem few2 (hN : N ≤ 40) (hX : X ≤ 99) (hY : Y ≤ 99) : (10000 ≤ tg e1 e2 d N N X Y ∧ Lg e1 e2 d N X Y = 0) ∨ (tg e1 e2 d N N X Y ≤ 40 ∧ fb_ct (Bk e1 e2 d N X Y) N = tg e1 e2 d N N X Y ∧ Lg e1 e2 d N X Y = Wt (Bk e1 e2 d N X Y) N) := by
  rcases Lg_at (e1 := e1) (e2 := e2) (d := d) N hN X Y with h | ⟨A, T, a1, a2, a4, a3⟩
  · refine Or.inl ⟨Nat.le_of_not_lt fun c => ?_, h⟩
    obtain ⟨w1, w2, T, w3, w4⟩ := wk_end hX hY c
    have u := Lg_up (e1 := e1) (e2 := e2) (d := d) N hN (Bk e1 e2 d N X Y) T w3
    rw [w2, w4, h] at u
    have := fb_ct_le (Bk e1 e2 d N X Y) N
    rw [Wt] at u
    omega
  · have lo := tg_low (d := d) a1 N (Nat.le_refl N)
    rw [sf_N, sf_N, sf_N, cf_ct, ← fS, ← fS, a2, a4] at lo
    have ca := fb_ct_le A N
    obtain ⟨w1, w2, T', w3, w4⟩ := wk_end (e1 := e1) (e2 := e2) (d := d) (N := N) hX hY (by omega)
    have u := Lg_up (e1 := e1) (e2 := e2) (d := d) N hN (Bk e1 e2 d N X Y) T' w3
    rw [w2, w4, a3] at u
    have v1 := vl_lt A N hN
    have v2 := vl_lt (Bk e1 e2 d N X Y) N hN
    have p1 : 1 ≤ 2 ^ (40 - N) := Nat.one_le_two_pow
    refine Or.inr ⟨by omega, w1, ?_⟩
    rw [a3]
    rw [Wt, Wt] at u ⊢
    have ec : fb_ct A N = tg e1 e2 d N N X Y := by
      rw [w1] at u
      omega
    have z0 : N - N = 0 := Nat.sub_self N
    have lx := lex2 (d := d) hX hY hN a1 N (Nat.le_refl N) Y (by rw [z0]; exact decide_eq_true rfl) (by rw [z0, sf_N, ← fS, a2]; rfl) (by rw [sf_N, ← fS, a4]) (by rw [z0, sf_N, cf_ct, ec]; rfl)
    rw [sf_N, sf_N, ← vl, ← vl] at lx
    rw [ec, w1] at u ⊢
    omega
end
