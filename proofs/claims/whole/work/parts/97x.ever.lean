/-! EVER: rows without an end (pure) -/
section
variable {m : Nat → Nat} {s0 : St}
/-- rows of every length -/
def LONG (m : Nat → Nat) (s : St) : Prop := ∀ L, ∃ t, Rch m s L t
theorem Rch_tr2 {s u : St} {a : Nat} (h : Rch m s a u) : ∀ b t, Rch m u b t → Rch m s (a + b) t := by
  intro b
  induction b with
  | zero =>
    intro t ht
    have ht : t = u := ht
    rw [ht]; exact h
  | succ b ih =>
    rintro t ⟨s', w, h1, h2⟩
    exact ⟨s', w, ih s' h1, h2⟩
theorem Rch_less {s : St} : ∀ d L t, Rch m s (L + d) t → ∃ t', Rch m s L t' := by
  intro d
  induction d with
  | zero => intro L t h; exact ⟨t, h⟩
  | succ d ih =>
    rintro L t ⟨s', w, h1, -⟩
    exact ih L s' h1
theorem Rch_first {s : St} : ∀ k t, Rch m s (k + 1) t → ∃ w, w < vW m ∧ gok m s w ∧ Rch m (nx m s w) k t := by
  intro k
  induction k with
  | zero =>
    rintro t ⟨s', w, h1, h2, h3, h4⟩
    have h1 : s' = s := h1
    rw [h1] at h3 h4
    exact ⟨w, h2, h3, h4⟩
  | succ k ih =>
    rintro t ⟨s', w, h1, h2⟩
    obtain ⟨v, g1, g2, g3⟩ := ih s' h1
    exact ⟨v, g1, g2, s', w, g3, h2⟩
theorem Rch_one {s : St} {w : Nat} (hw : w < vW m) (hg : gok m s w) : Rch m s 1 (nx m s w) := ⟨s, w, rfl, hw, hg, rfl⟩
/-- a round is a row without an end -/
theorem LONG_round {y : St} {a K : Nat} (h : Rch m s0 a y) (hr : Rch m y (K + 1) y) : LONG m s0 := by
  have many : ∀ j, Rch m y (j * (K + 1)) y := by
    intro j
    induction j with
    | zero => rw [Nat.zero_mul]; rfl
    | succ j ih => rw [Nat.add_mul, Nat.one_mul]; exact Rch_tr2 ih _ _ hr
  intro L
  have h2 := Rch_tr2 h _ _ (many L)
  have : L ≤ a + L * (K + 1) := by
    have : L * 1 ≤ L * (K + 1) := Nat.mul_le_mul_left L (by omega)
    omega
  obtain ⟨d, hd⟩ : ∃ d, a + L * (K + 1) = L + d := ⟨a + L * (K + 1) - L, by omega⟩
  rw [hd] at h2
  exact Rch_less d L y h2
/-- a set that one can always go on in -/
theorem LONG_set {P : St → Prop} (h0 : ∃ a s, Rch m s0 a s ∧ P s) (hs : ∀ s, P s → ∃ w, w < vW m ∧ gok m s w ∧ P (nx m s w)) : LONG m s0 := by
  obtain ⟨a, s, h1, h2⟩ := h0
  have key : ∀ L, ∃ t, Rch m s0 (a + L) t ∧ P t := by
    intro L
    induction L with
    | zero => exact ⟨s, h1, h2⟩
    | succ L ih =>
      obtain ⟨t, g1, g2⟩ := ih
      obtain ⟨w, w1, w2, w3⟩ := hs t g2
      exact ⟨_, ⟨t, w, g1, w1, w2, rfl⟩, w3⟩
  intro L
  obtain ⟨t, g, -⟩ := key L
  rw [Nat.add_comm] at g
  exact Rch_less a L t g
/-- each one's followers all stand behind it -/
def Top (m : Nat → Nat) : List St → Prop
  | [] => True
  | x :: B => (∀ w, w < vW m → gok m x w → nx m x w ∈ B) ∧ Top m B
theorem Top_short : ∀ (E : List St), Top m E → ∀ s, s ∈ E → ∀ k t, Rch m s k t → k < E.length := by
  intro E
  induction E with
  | nil => intro _ s hs; exact absurd hs List.not_mem_nil
  | cons x B ih =>
    rintro ⟨h1, h2⟩ s hs k t hr
    cases k with
    | zero => exact Nat.succ_pos _
    | succ k =>
      show k + 1 < B.length + 1
      rcases List.mem_cons.mp hs with e | hs
      · obtain ⟨w, w1, w2, w3⟩ := Rch_first k t hr
        rw [e] at w2 w3
        have := ih h2 _ (h1 w w1 w2) k t w3
        omega
      · have := ih h2 s hs (k + 1) t hr
        omega
theorem Top_no {E : List St} (h : Top m E) {s : St} (hs : s ∈ E) : ¬ LONG m s := fun hl => by
  obtain ⟨t, ht⟩ := hl E.length
  exact absurd (Top_short E h s hs _ t ht) (Nat.lt_irrefl _)
/-- what all that is come to is -/
theorem Rch_ok (hk : okm m) (hs0 : okS m s0) (hl : s0.2.length ≤ vN m) : ∀ k s, Rch m s0 k s → okS m s ∧ s.2.length ≤ vN m ∧ (vN m = 3 → Tf s0 s) := by
  intro k
  induction k with
  | zero =>
    intro s h
    have h : s = s0 := h
    rw [h]
    exact ⟨hs0, hl, fun _ => Or.inl rfl⟩
  | succ k ih =>
    rintro s ⟨s', w, h1, h2, h3, h4⟩
    obtain ⟨i1, i2, i3⟩ := ih s' h1
    rw [h4]
    refine ⟨nx_ok hk i1 h2, ?_, fun e => Tf_s e (i3 e) h3⟩
    show ((s'.1 :: s'.2).take (vN m)).length ≤ vN m
    rw [List.length_take]
    omega
/-- unlike ones are few -/
theorem few_St (hk : okm m) (hs0 : okS m s0) (hl : s0.2.length ≤ vN m) {E : List St} (hn : E.Nodup) (hr : ∀ s ∈ E, ∃ k, Rch m s0 k s) : E.length ≤ 255640 := by
  have ok : ∀ i (hi : i < E.length), okS m E[i] ∧ E[i].2.length ≤ vN m ∧ (vN m = 3 → Tf s0 E[i]) := fun i hi => by
    obtain ⟨k, h⟩ := hr _ (List.getElem_mem hi)
    exact Rch_ok hk hs0 hl k _ h
  refine ph 255640 E.length (fun i => if h : i < E.length then rkS (vN m) s0 E[i] else 0) (fun i hi => ?_) (fun i j hi hj e => ?_)
  · show (if h : i < E.length then rkS (vN m) s0 E[i] else 0) < 255640
    rw [dif_pos hi]
    exact rkS_lt hk.1 (ok i hi).1 (ok i hi).2.2
  · have e : (if h : i < E.length then rkS (vN m) s0 E[i] else 0) = (if h : j < E.length then rkS (vN m) s0 E[j] else 0) := e
    rw [dif_pos hi, dif_pos hj] at e
    have z := rkS_inj hk.1 hk.2.1.2.1 (ok i hi).1 (ok j hj).1 (ok i hi).2.1 (ok j hj).2.1 (ok i hi).2.2 (ok j hj).2.2 e
    exact (List.getElem?_inj hi hn).mp ((List.getElem?_eq_getElem hi).trans ((congrArg some z).trans (List.getElem?_eq_getElem hj).symm))
/-! going deep -/
def Pth (m : Nat → Nat) (s0 : St) : List St → Prop
  | [] => True
  | [x] => x = s0
  | x :: y :: t => (x.1 < vW m ∧ gok m y x.1 ∧ x = nx m y x.1) ∧ Pth m s0 (y :: t)
def Low (m : Nat → Nat) (cl : List St) : Nat → List St → Prop
  | _, [] => True
  | f, x :: t => (∀ w, w < f → w < vW m → gok m x w → nx m x w ∈ cl) ∧ Low m cl x.1 t
theorem Low_mono {cl cl' : List St} (h : ∀ x ∈ cl, x ∈ cl') : ∀ f t, Low m cl f t → Low m cl' f t := by
  intro f t
  induction t generalizing f with
  | nil => intro _; trivial
  | cons x t ih =>
    rintro ⟨h1, h2⟩
    exact ⟨fun w a b c => h _ (h1 w a b c), ih _ h2⟩
def DI (m : Nat → Nat) (s0 : St) (stk cl : List St) (f : Nat) : Prop := Pth m s0 stk ∧ (stk ++ cl).Nodup ∧ Top m cl ∧ Low m cl f stk ∧ (stk = [] → s0 ∈ cl) ∧ ∀ s ∈ stk ++ cl, ∃ k, Rch m s0 k s
theorem DI.p {stk cl : List St} {f : Nat} (h : DI m s0 stk cl f) : Pth m s0 stk := h.1
theorem DI.n {stk cl : List St} {f : Nat} (h : DI m s0 stk cl f) : (stk ++ cl).Nodup := h.2.1
theorem DI.t {stk cl : List St} {f : Nat} (h : DI m s0 stk cl f) : Top m cl := h.2.2.1
theorem DI.l {stk cl : List St} {f : Nat} (h : DI m s0 stk cl f) : Low m cl f stk := h.2.2.2.1
theorem DI.e {stk cl : List St} {f : Nat} (h : DI m s0 stk cl f) : stk = [] → s0 ∈ cl := h.2.2.2.2.1
theorem DI.r {stk cl : List St} {f : Nat} (h : DI m s0 stk cl f) : ∀ s ∈ stk ++ cl, ∃ k, Rch m s0 k s := h.2.2.2.2.2
theorem DI_0 : DI m s0 [s0] [] 0 := ⟨rfl, by simp, trivial, ⟨fun w h => absurd h (Nat.not_lt_zero w), trivial⟩, fun h => by simp at h, fun s hs => ⟨0, List.mem_singleton.mp hs⟩⟩
theorem DI_pop {x : St} {t cl : List St} {f : Nat} (h : DI m s0 (x :: t) cl f) (hn : ∀ w, f ≤ w → w < vW m → gok m x w → nx m x w ∈ cl) : DI m s0 t (x :: cl) (x.1 + 1) := by
  obtain ⟨l1, l2⟩ := h.l
  have nd := h.n
  refine ⟨?_, ?_, ⟨fun w hw hg => ?_, h.t⟩, ?_, fun e => ?_, fun s hs => ?_⟩
  · match t, h.p with
    | [], _ => trivial
    | y :: t', hp => exact hp.2
  · exact (List.perm_middle.nodup_iff).mpr nd
  · by_cases c : w < f
    · exact l1 w c hw hg
    · exact hn w (by omega) hw hg
  · match t, h.p, l2 with
    | [], _, _ => trivial
    | y :: t', hp, l2 =>
      refine ⟨fun w hw1 hw hg => ?_, Low_mono (fun z hz => List.mem_cons_of_mem _ hz) _ _ l2.2⟩
      by_cases c : w = x.1
      · rw [c, ← hp.1.2.2]; exact List.mem_cons_self
      · exact List.mem_cons_of_mem _ (l2.1 w (by omega) hw hg)
  · subst e
    have : x = s0 := h.p
    rw [this]; exact List.mem_cons_self
  · refine h.r s ?_
    rcases List.mem_append.mp hs with hs | hs
    · exact List.mem_append_left _ (List.mem_cons_of_mem _ hs)
    · rcases List.mem_cons.mp hs with e | hs
      · rw [e]; exact List.mem_append_left _ List.mem_cons_self
      · exact List.mem_append_right _ hs
theorem DI_push {x : St} {t cl : List St} {f w : Nat} (h : DI m s0 (x :: t) cl f) (hw : w < vW m) (hf : f ≤ w) (hg : gok m x w) (hlow : ∀ w', f ≤ w' → w' < w → gok m x w' → nx m x w' ∈ cl) (hc : nx m x w ∉ cl) (ho : nx m x w ∉ x :: t) : DI m s0 (nx m x w :: x :: t) cl 0 := by
  obtain ⟨l1, l2⟩ := h.l
  refine ⟨⟨⟨hw, hg, rfl⟩, h.p⟩, ?_, h.t, ⟨fun w h => absurd h (Nat.not_lt_zero w), fun w' h1 h2 hg' => ?_, l2⟩, fun e => by simp at e, fun s hs => ?_⟩
  · rw [List.cons_append, List.nodup_cons]
    exact ⟨fun z => (List.mem_append.mp z).elim ho hc, h.n⟩
  · have h1 : w' < w := h1
    by_cases c : w' < f
    · exact l1 w' c h2 hg'
    · exact hlow w' (by omega) h1 hg'
  · rcases List.mem_cons.mp hs with e | hs
    · obtain ⟨k, hk⟩ := h.r x (List.mem_append_left _ List.mem_cons_self)
      rw [e]
      exact ⟨k + 1, x, w, hk, hw, hg, rfl⟩
    · exact h.r s hs
theorem Pth_to {t : List St} : ∀ {x : St}, Pth m s0 (x :: t) → ∀ y ∈ x :: t, ∃ b, Rch m y b x := by
  induction t with
  | nil =>
    intro x _ y hy
    exact ⟨0, (List.mem_singleton.mp hy).symm⟩
  | cons z t ih =>
    rintro x ⟨⟨h1, h2, h3⟩, h4⟩ y hy
    rcases List.mem_cons.mp hy with e | hy
    · exact ⟨0, e.symm⟩
    · obtain ⟨b, hb⟩ := ih h4 y hy
      exact ⟨b + 1, z, x.1, hb, h1, h2, h3⟩
theorem DI_hit {x : St} {t cl : List St} {f w : Nat} (h : DI m s0 (x :: t) cl f) (hw : w < vW m) (hg : gok m x w) (ho : nx m x w ∈ x :: t) : LONG m s0 := by
  obtain ⟨a, ha⟩ := h.r _ (List.mem_append_left cl ho)
  obtain ⟨b, hb⟩ := Pth_to h.p _ ho
  have hb2 : Rch m (nx m x w) (b + 1) (nx m x w) := ⟨x, w, hb, hw, hg, rfl⟩
  exact LONG_round (K := b) ha hb2
theorem DI_end {cl : List St} {f : Nat} (h : DI m s0 [] cl f) : ¬ LONG m s0 := Top_no h.t (h.e rfl)
end
