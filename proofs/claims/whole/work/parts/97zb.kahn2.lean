/-! EVER: leaving out what ends, to its end (pure) -/
section
variable {m : Nat → Nat} {s0 : St}
theorem lo1_ext (c : Cf) (o : Nat) (x : KW) (p : St) : ∃ X, (lo1 m c o x p).2 = x.2 ++ X := by
  unfold lo1
  split
  · show ∃ X, (if x.1 p = 1 then x.2 ++ [p] else x.2) = x.2 ++ X
    split
    · exact ⟨[p], rfl⟩
    · exact ⟨[], (List.append_nil _).symm⟩
  · exact ⟨[], (List.append_nil _).symm⟩
theorem fold_ext (c : Cf) (o : Nat) : ∀ (C : List St) (x : KW), ∃ X, (C.foldl (lo1 m c o) x).2 = x.2 ++ X := by
  intro C
  induction C with
  | nil => intro x; exact ⟨[], (List.append_nil _).symm⟩
  | cons p C ih =>
    intro x
    obtain ⟨X, e⟩ := lo1_ext (m := m) c o x p
    obtain ⟨Y, e2⟩ := ih (lo1 m c o x p)
    exact ⟨X ++ Y, by rw [List.foldl_cons, e2, e, List.append_assoc]⟩
theorem inC_ok {c : Cf} (hb : BI m s0 c) (hl : s0.2.length ≤ vN m) {p : St} (h : inC c p = true) : okS m p ∧ p.2.length ≤ vN m := by
  obtain ⟨i, hi, e⟩ := inC_iff.mp h
  rw [← e]
  exact ⟨(hb.2.2.2.1 i hi).1, BI_len hb hl i hi⟩
theorem KI_step {c : Cf} (hb : BI m s0 c) (hl : s0.2.length ≤ vN m) {a : Nat} {x : KW} (h : KI m c a x) {s : St} (hs : x.2[a]? = some s) : KI m c (a + 1) ((cand m s).foldl (lo1 m c s.1) x) := by
  obtain ⟨h1, h2, h3, h4⟩ := h
  have ha := (List.getElem?_eq_some_iff.mp hs).1
  have hsE : s ∈ x.2 := List.mem_of_getElem? hs
  have ok := inC_ok hb hl ((h2 s).mp hsE).1
  have tk : x.2.take (a + 1) = x.2.take a ++ [s] := by
    rw [List.take_succ, hs]; rfl
  have hsP : s ∉ x.2.take a := fun z => by
    have nd : (x.2.take (a + 1)).Nodup := List.Sublist.nodup (List.take_sublist _ _) h3
    rw [tk] at nd
    exact (List.nodup_append.mp nd).2.2 s z s (by simp) rfl
  have m0 : MI m c (x.2.take a) s [] x := by
    refine ⟨fun p hp => ?_, h2, h3, h4, fun q hq => ?_⟩
    · rw [h1 p hp, if_neg (fun z => absurd z.1 List.not_mem_nil), Nat.sub_zero]
    · rcases List.mem_append.mp hq with hq | hq
      · exact List.mem_of_mem_take hq
      · rw [List.mem_singleton.mp hq]; exact hsE
  have mf := MI_fold (m := m) ok.1.1 hsP (fun p hp => cand_nx ok.2 hp) (cand m s) [] x (by rw [List.nil_append]; exact cand_nodup s) (fun p hp => hp) m0
  rw [List.nil_append] at mf
  obtain ⟨X, eX⟩ := fold_ext (m := m) c s.1 (cand m s) x
  obtain ⟨g1, g2, g3, g4, -⟩ := mf
  refine ⟨fun p hp => ?_, g2, g3, g4⟩
  rw [g1 p hp, eX, List.take_append_of_le_length (by omega), tk, (nfo_app hsP ok.1.1).1]
  congr 1
  have okp' := inC_ok hb hl hp
  by_cases c1 : gok m p s.1 ∧ nx m p s.1 = s
  · rw [if_pos c1, if_pos ⟨cand_all okp'.1 okp'.2 c1.2, c1.1⟩]
  · rw [if_neg c1, if_neg (fun z => c1 ⟨z.2, cand_nx ok.2 z.1⟩)]
/-- the ends at first -/
def ends0 (m : Nat → Nat) (c : Cf) : Nat → List St
  | 0 => []
  | k + 1 => if nfo m [] (c.2.1 k) = 0 then ends0 m c k ++ [c.2.1 k] else ends0 m c k
theorem ends0_mem {c : Cf} (p : St) : ∀ k, p ∈ ends0 m c k ↔ ∃ i, i < k ∧ c.2.1 i = p ∧ nfo m [] p = 0 := by
  intro k
  induction k with
  | zero => exact ⟨fun z => absurd z List.not_mem_nil, fun ⟨i, h, _⟩ => absurd h (Nat.not_lt_zero i)⟩
  | succ k ih =>
    have down : (∃ i, i < k ∧ c.2.1 i = p ∧ nfo m [] p = 0) → ∃ i, i < k + 1 ∧ c.2.1 i = p ∧ nfo m [] p = 0 := fun ⟨i, h, h2⟩ => ⟨i, by omega, h2⟩
    rw [ends0]
    by_cases c0 : nfo m [] (c.2.1 k) = 0
    · rw [if_pos c0, List.mem_append, List.mem_singleton, ih]
      refine ⟨fun z => z.elim down fun e => ⟨k, Nat.lt_succ_self k, e.symm, by rw [e]; exact c0⟩, fun ⟨i, h, h2⟩ => ?_⟩
      by_cases e : i = k
      · exact Or.inr (by rw [← h2.1, e])
      · exact Or.inl ⟨i, by omega, h2⟩
    · rw [if_neg c0, ih]
      refine ⟨down, fun ⟨i, h, h2⟩ => ?_⟩
      by_cases e : i = k
      · rw [e] at h2
        exact absurd (by rw [h2.1]; exact h2.2) c0
      · exact ⟨i, by omega, h2⟩
theorem ends0_nodup {c : Cf} (hb : BI m s0 c) : ∀ k, k ≤ c.1 → (ends0 m c k).Nodup := by
  intro k
  induction k with
  | zero => intro _; exact List.nodup_nil
  | succ k ih =>
    intro hk
    rw [ends0]
    split
    · refine List.nodup_append.mpr ⟨ih (by omega), by simp, fun a ha b hb' e => ?_⟩
      rw [List.mem_singleton] at hb'
      obtain ⟨i, hi, e2, -⟩ := (ends0_mem a k).mp ha
      have := hb.2.2.2.2.1 i k (by omega) (by omega) (e2.trans (e.trans hb'))
      omega
    · exact ih (by omega)
theorem Top_bare : ∀ (E : List St), (∀ p ∈ E, nfo m [] p = 0) → Top m E := by
  intro E
  induction E with
  | nil => intro _; trivial
  | cons x E ih =>
    intro h
    exact ⟨fun w hw hg => absurd (nfo_zero (h x List.mem_cons_self) w hw hg) List.not_mem_nil, ih fun p hp => h p (List.mem_cons_of_mem _ hp)⟩
theorem KI_0 {c : Cf} (hb : BI m s0 c) : KI m c 0 (nfo m [], ends0 m c c.1) := by
  refine ⟨fun p _ => by rw [List.take_zero], fun p => ?_, ends0_nodup hb c.1 (Nat.le_refl _), Top_bare _ fun p hp => ?_⟩
  · show p ∈ ends0 m c c.1 ↔ inC c p = true ∧ nfo m [] p = 0
    rw [ends0_mem, inC_iff]
    exact ⟨fun ⟨i, h1, h2, h3⟩ => ⟨⟨i, h1, h2⟩, h3⟩, fun ⟨⟨i, h1, h2⟩, h3⟩ => ⟨i, h1, h2, h3⟩⟩
  · rw [List.mem_reverse] at hp
    obtain ⟨i, -, -, h⟩ := (ends0_mem p c.1).mp hp
    exact h
/-- unlike ones of the search are no more than it has -/
theorem inC_few {c : Cf} (hb : BI m s0 c) {E : List St} (hn : E.Nodup) (hE : ∀ p ∈ E, inC c p = true) : E.length ≤ c.1 := by
  have key : ∀ i, i < E.length → ∃ k, k < c.1 ∧ E[i]? = some (c.2.1 k) := fun i hi => by
    obtain ⟨k, h1, h2⟩ := inC_iff.mp (hE _ (List.getElem_mem hi))
    exact ⟨k, h1, by rw [List.getElem?_eq_getElem hi, h2]⟩
  refine ph c.1 E.length (fun i => if h : i < E.length then Classical.choose (key i h) else 0) (fun i hi => ?_) (fun i j hi hj e => ?_)
  · show (if h : i < E.length then Classical.choose (key i h) else 0) < c.1
    rw [dif_pos hi]
    exact (Classical.choose_spec (key i hi)).1
  · have e : (if h : i < E.length then Classical.choose (key i h) else 0) = (if h : j < E.length then Classical.choose (key j h) else 0) := e
    rw [dif_pos hi, dif_pos hj] at e
    have e1 := (Classical.choose_spec (key i hi)).2
    have e2 := (Classical.choose_spec (key j hj)).2
    rw [e, ← e2] at e1
    exact (List.getElem?_inj hi hn).mp e1
theorem inC_all {c : Cf} (hb : BI m s0 c) {E : List St} (hE : ∀ p, inC c p = true → p ∈ E) : c.1 ≤ E.length := by
  have key : ∀ i, i < c.1 → ∃ k, k < E.length ∧ E[k]? = some (c.2.1 i) := fun i hi => by
    obtain ⟨k, h1, h2⟩ := List.getElem_of_mem (hE _ (inC_iff.mpr ⟨i, hi, rfl⟩))
    exact ⟨k, h1, by rw [List.getElem?_eq_getElem h1, h2]⟩
  refine ph E.length c.1 (fun i => if h : i < c.1 then Classical.choose (key i h) else 0) (fun i hi => ?_) (fun i j hi hj e => ?_)
  · show (if h : i < c.1 then Classical.choose (key i h) else 0) < E.length
    rw [dif_pos hi]
    exact (Classical.choose_spec (key i hi)).1
  · have e : (if h : i < c.1 then Classical.choose (key i h) else 0) = (if h : j < c.1 then Classical.choose (key j h) else 0) := e
    rw [dif_pos hi, dif_pos hj] at e
    have e1 := (Classical.choose_spec (key i hi)).2
    have e2 := (Classical.choose_spec (key j hj)).2
    rw [e, e2] at e1
    exact hb.2.2.2.2.1 i j hi hj (Option.some.inj e1).symm
theorem KI_len {c : Cf} (hb : BI m s0 c) {a : Nat} {x : KW} (h : KI m c a x) : x.2.length ≤ c.1 := inC_few hb h.2.2.1 fun p hp => ((h.2.1 p).mp hp).1
theorem KI_end {T : Nat} (hT : (bfs m s0 T).1 = T) (hb : BS m s0 T) {x : KW} (h : KI m (bfs m s0 T) x.2.length x) : x.2.length < T ↔ LONG m s0 := by
  obtain ⟨h1, h2, h3, h4⟩ := h
  obtain ⟨b1, b2, b3, b4⟩ := hb
  rw [List.take_length] at h1
  have in0 : inC (bfs m s0 T) s0 = true := inC_iff.mpr ⟨0, by have := b1.1; omega, b1.2.1⟩
  have clo : ∀ p w, inC (bfs m s0 T) p = true → w < vW m → gok m p w → inC (bfs m s0 T) (nx m p w) = true := fun p w hp hw hg => by
    obtain ⟨i, hi, e⟩ := inC_iff.mp hp
    obtain ⟨j, j1, j2, -⟩ := b3 i (by omega) w hw (by rw [e]; exact hg)
    exact inC_iff.mpr ⟨j, j1, by rw [j2, e]⟩
  constructor
  · intro hlt
    have : ∃ p, inC (bfs m s0 T) p = true ∧ p ∉ x.2 := by
      refine Classical.byContradiction fun hno => ?_
      have := inC_all b1 (E := x.2) fun p hp => Classical.byContradiction fun z => hno ⟨p, hp, z⟩
      omega
    obtain ⟨p, p1, p2⟩ := this
    refine LONG_set (P := fun q => inC (bfs m s0 T) q = true ∧ q ∉ x.2) ?_ fun q hq => ?_
    · obtain ⟨i, hi, e⟩ := inC_iff.mp p1
      obtain ⟨k, -, hk⟩ := Chn_ex (BI_P b1) (i + 1) i (Nat.lt_succ_self i) hi
      exact ⟨k, p, by rw [← e]; exact BI_R b1 k i hi hk, p1, p2⟩
    · have nz : ¬ nfo m x.2 q = 0 := fun z => hq.2 ((h2 q).mpr ⟨hq.1, by rw [h1 q hq.1]; exact z⟩)
      obtain ⟨w, w1, w2, w3⟩ := nfo_some nz
      exact ⟨w, w1, w2, clo q w hq.1 w1 w2, w3⟩
  · intro hl
    refine Nat.lt_of_not_le fun hle => ?_
    have mem0 : s0 ∈ x.2 := by
      refine Classical.byContradiction fun z => ?_
      have := inC_few b1 (E := s0 :: x.2) (List.nodup_cons.mpr ⟨z, h3⟩) fun p hp => by
        rcases List.mem_cons.mp hp with e | hp
        · rw [e]; exact in0
        · exact ((h2 p).mp hp).1
      have : x.2.length + 1 ≤ (bfs m s0 T).1 := this
      omega
    exact Top_no h4 (List.mem_reverse.mpr mem0) hl
end
