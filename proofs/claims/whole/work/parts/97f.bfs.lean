/-! THE SEARCH: the states that a coin comes to, breadth first (pure) -/
section
variable {m : Nat → Nat}
abbrev St := Nat × List Nat
abbrev okS (m : Nat → Nat) (s : St) : Prop := s.1 < vW m ∧ okl m s.2
abbrev gok (m : Nat → Nat) (s : St) (w : Nat) : Prop := wy m s.1 s.2 w = 0
abbrev nx (m : Nat → Nat) (s : St) (w : Nat) : St := (w, ps m s.1 s.2)
theorem nx_ok (hk : okm m) {s : St} (h : okS m s) {w : Nat} (hw : w < vW m) : okS m (nx m s w) := ⟨hw, ps_ok hk.2.1 h.1 h.2⟩
/-- how many, the states, from where each was come to -/
abbrev Cf := Nat × (Nat → St) × (Nat → Nat)
def inC (c : Cf) (s : St) : Bool := ex (fun i => decide (c.2.1 i = s)) c.1
def pushC (c : Cf) (s : St) (p : Nat) : Cf := (c.1 + 1, fun i => if i = c.1 then s else c.2.1 i, fun i => if i = c.1 then p else c.2.2 i)
def stp (m : Nat → Nat) (h : Nat) (c : Cf) (w : Nat) : Cf := if wy m (c.2.1 h).1 (c.2.1 h).2 w = 0 then (if inC c (nx m (c.2.1 h) w) = true then c else pushC c (nx m (c.2.1 h) w) h) else c
def exl (m : Nat → Nat) (h : Nat) (c : Cf) : Nat → Cf
  | 0 => c
  | j + 1 => stp m h (exl m h c j) j
def bfs (m : Nat → Nat) (s0 : St) : Nat → Cf
  | 0 => (1, fun _ => s0, fun _ => 0)
  | h + 1 => exl m h (bfs m s0 h) (vW m)
theorem inC_iff {c : Cf} {s : St} : inC c s = true ↔ ∃ i, i < c.1 ∧ c.2.1 i = s := by
  rw [inC, ex_iff]
  constructor
  · rintro ⟨i, h1, h2⟩; exact ⟨i, h1, of_decide_eq_true h2⟩
  · rintro ⟨i, h1, h2⟩; exact ⟨i, h1, decide_eq_true h2⟩
/-- owner and rim all unlike, the rim full -/
def dst4 (s : St) : Prop := ∃ a b c, s.2 = [a, b, c] ∧ s.1 ≠ a ∧ s.1 ≠ b ∧ s.1 ≠ c ∧ a ≠ b ∧ a ≠ c ∧ b ≠ c
/-- what a state looks like, by how far it is from the first (rims of three) -/
def Tf (s0 s : St) : Prop := s = s0 ∨ (s.2 = (s0.1 :: s0.2).take 3 ∧ s.1 ≠ s0.1) ∨ (∃ v, s.2 = (v :: s0.1 :: s0.2).take 3 ∧ v ≠ s0.1 ∧ s.1 ≠ v ∧ s.1 ≠ s0.1) ∨ dst4 s
theorem wy_ne {o : Nat} {l : List Nat} {w : Nat} (h : wy m o l w = 0) : w ≠ o ∧ ∀ x ∈ l, w ≠ x := by
  unfold wy at h
  by_cases c1 : 0 < de m w
  · rw [if_pos c1] at h; omega
  · rw [if_neg c1] at h
    by_cases c2 : sh m w o = true
    · rw [if_pos c2] at h; omega
    · rw [if_neg c2] at h
      by_cases c3 : (l.any fun x => sh m w x) = true
      · rw [if_pos c3] at h; omega
      · refine ⟨fun e => c2 ?_, fun x hx e => c3 ?_⟩
        · unfold sh; rw [e]; simp
        · refine List.any_eq_true.mpr ⟨x, hx, ?_⟩
          unfold sh; rw [e]; simp
theorem tk3 (a b : Nat) : ∀ l : List Nat, (a :: (b :: l).take 3).take 3 = (a :: b :: l).take 3
  | [] => rfl
  | [_] => rfl
  | _ :: _ :: _ => rfl
theorem Tf_s (h3 : vN m = 3) {s0 s : St} (h : Tf s0 s) {w : Nat} (hg : gok m s w) : Tf s0 (nx m s w) := by
  obtain ⟨n1, n2⟩ := wy_ne hg
  have eps : (nx m s w).2 = (s.1 :: s.2).take 3 := by show ps m s.1 s.2 = _; rw [ps, h3]
  have e1 : (nx m s w).1 = w := rfl
  rcases h with h | ⟨h, h'⟩ | ⟨v, h, h1, h2, h4⟩ | ⟨a, b, c, h, d1, d2, d3, d4, d5, d6⟩
  · subst h
    exact Or.inr (Or.inl ⟨eps, n1⟩)
  · refine Or.inr (Or.inr (Or.inl ⟨s.1, ?_, h', n1, ?_⟩))
    · rw [eps, h]; exact tk3 _ _ _
    · exact n2 s0.1 (by rw [h]; exact List.mem_cons_self)
  · refine Or.inr (Or.inr (Or.inr ⟨s.1, v, s0.1, ?_, n1, ?_, ?_, h2, h4, h1⟩))
    · rw [eps, h]; rfl
    · exact n2 v (by rw [h]; exact List.mem_cons_self)
    · exact n2 s0.1 (by rw [h]; exact List.mem_cons_of_mem _ List.mem_cons_self)
  · refine Or.inr (Or.inr (Or.inr ⟨s.1, a, b, ?_, n1, ?_, ?_, d1, d2, d4⟩))
    · rw [eps, h]; rfl
    · exact n2 a (by rw [h]; exact List.mem_cons_self)
    · exact n2 b (by rw [h]; exact List.mem_cons_of_mem _ List.mem_cons_self)
/-- what is true of every search -/
def BI (m : Nat → Nat) (s0 : St) (c : Cf) : Prop := 1 ≤ c.1 ∧ c.2.1 0 = s0 ∧ c.2.2 0 = 0 ∧ (∀ i, i < c.1 → okS m (c.2.1 i) ∧ (vN m = 3 → Tf s0 (c.2.1 i))) ∧ (∀ i j, i < c.1 → j < c.1 → c.2.1 i = c.2.1 j → i = j) ∧ ∀ i, 1 ≤ i → i < c.1 → c.2.2 i < i ∧ gok m (c.2.1 (c.2.2 i)) (c.2.1 i).1 ∧ c.2.1 i = nx m (c.2.1 (c.2.2 i)) (c.2.1 i).1
theorem BI_0 {s0 : St} (h : okS m s0) : BI m s0 (1, fun _ => s0, fun _ => 0) := ⟨Nat.le_refl 1, rfl, rfl, fun _ _ => ⟨h, fun _ => Or.inl rfl⟩, fun i j h1 h2 _ => by omega, fun i h1 h2 => by omega⟩
/-- the places of before stay -/
def Ext (c c' : Cf) : Prop := c.1 ≤ c'.1 ∧ ∀ i, i < c.1 → c'.2.1 i = c.2.1 i ∧ c'.2.2 i = c.2.2 i
theorem Ext.rf (c : Cf) : Ext c c := ⟨Nat.le_refl _, fun _ _ => ⟨rfl, rfl⟩⟩
theorem Ext.tr {c c1 c2 : Cf} (h : Ext c c1) (k : Ext c1 c2) : Ext c c2 := ⟨Nat.le_trans h.1 k.1, fun i hi => ⟨(k.2 i (by have := h.1; omega)).1.trans (h.2 i hi).1, (k.2 i (by have := h.1; omega)).2.trans (h.2 i hi).2⟩⟩
theorem push_ext (c : Cf) (s : St) (p : Nat) : Ext c (pushC c s p) := ⟨Nat.le_succ _, fun i hi => ⟨if_neg (by omega), if_neg (by omega)⟩⟩
theorem push_new (c : Cf) (s : St) (p : Nat) : (pushC c s p).2.1 c.1 = s ∧ (pushC c s p).2.2 c.1 = p := ⟨if_pos rfl, if_pos rfl⟩
theorem stp_ext (h : Nat) (c : Cf) (w : Nat) : Ext c (stp m h c w) := by
  rw [stp]
  split
  · split
    · exact Ext.rf c
    · exact push_ext _ _ _
  · exact Ext.rf c
theorem exl_ext (h : Nat) (c : Cf) : ∀ j, Ext c (exl m h c j)
  | 0 => Ext.rf c
  | j + 1 => (exl_ext h c j).tr (stp_ext h _ j)
theorem stp_BI (hk : okm m) {s0 : St} {h : Nat} {c : Cf} (hh : h < c.1) (hb : BI m s0 c) {w : Nat} (hw : w < vW m) : BI m s0 (stp m h c w) := by
  rw [stp]
  by_cases c1 : wy m (c.2.1 h).1 (c.2.1 h).2 w = 0
  · rw [if_pos c1]
    by_cases c2 : inC c (nx m (c.2.1 h) w) = true
    · rw [if_pos c2]; exact hb
    · rw [if_neg c2]
      obtain ⟨b1, b2, b3, b4, b5, b6⟩ := hb
      obtain ⟨x1, x2⟩ := push_ext c (nx m (c.2.1 h) w) h
      obtain ⟨y1, y2⟩ := push_new c (nx m (c.2.1 h) w) h
      have new : ∀ i, i < c.1 → c.2.1 i ≠ nx m (c.2.1 h) w := fun i hi e => c2 (inC_iff.mpr ⟨i, hi, e⟩)
      refine ⟨by show 1 ≤ c.1 + 1; omega, (x2 0 (by omega)).1.trans b2, (x2 0 (by omega)).2.trans b3, fun i hi => ?_, fun i j hi hj e => ?_, fun i h1 hi => ?_⟩
      · have hi : i < c.1 + 1 := hi
        by_cases e : i = c.1
        · rw [e, y1]
          exact ⟨nx_ok hk (b4 h hh).1 hw, fun q => Tf_s q ((b4 h hh).2 q) c1⟩
        · rw [(x2 i (by omega)).1]; exact b4 i (by omega)
      · have hi : i < c.1 + 1 := hi
        have hj : j < c.1 + 1 := hj
        by_cases ei : i = c.1
        · by_cases ej : j = c.1
          · omega
          · rw [ei, y1, (x2 j (by omega)).1] at e
            exact absurd e.symm (new j (by omega))
        · by_cases ej : j = c.1
          · rw [ej, y1, (x2 i (by omega)).1] at e
            exact absurd e (new i (by omega))
          · rw [(x2 i (by omega)).1, (x2 j (by omega)).1] at e
            exact b5 i j (by omega) (by omega) e
      · have hi : i < c.1 + 1 := hi
        by_cases ei : i = c.1
        · rw [ei, y2, y1, (x2 h hh).1]
          exact ⟨hh, c1, rfl⟩
        · obtain ⟨q1, q2, q3⟩ := b6 i h1 (by omega)
          rw [(x2 i (by omega)).1, (x2 i (by omega)).2, (x2 (c.2.2 i) (by omega)).1]
          exact ⟨q1, q2, q3⟩
  · rw [if_neg c1]; exact hb
theorem exl_BI (hk : okm m) {s0 : St} {h : Nat} {c : Cf} (hh : h < c.1) (hb : BI m s0 c) : ∀ j, j ≤ vW m → BI m s0 (exl m h c j)
  | 0, _ => hb
  | j + 1, hj => stp_BI hk (Nat.lt_of_lt_of_le hh (exl_ext h c j).1) (exl_BI hk hh hb j (by omega)) (by omega)
/-- parents come in order, none behind the head -/
def BM (h : Nat) (c : Cf) : Prop := (∀ i, i < c.1 → c.2.2 i ≤ h) ∧ ∀ i j, i ≤ j → j < c.1 → c.2.2 i ≤ c.2.2 j
theorem stp_BM {h : Nat} {c : Cf} (hb : BM h c) (w : Nat) : BM h (stp m h c w) := by
  rw [stp]
  split
  · split
    · exact hb
    · obtain ⟨x1, x2⟩ := push_ext c (nx m (c.2.1 h) w) h
      obtain ⟨y1, y2⟩ := push_new c (nx m (c.2.1 h) w) h
      refine ⟨fun i hi => ?_, fun i j hij hj => ?_⟩
      · have hi : i < c.1 + 1 := hi
        by_cases e : i = c.1
        · rw [e, y2]; exact Nat.le_refl h
        · rw [(x2 i (by omega)).2]; exact hb.1 i (by omega)
      · have hj : j < c.1 + 1 := hj
        by_cases e : j = c.1
        · rw [e, y2]
          by_cases e2 : i = c.1
          · rw [e2, y2]; exact Nat.le_refl h
          · rw [(x2 i (by omega)).2]; exact hb.1 i (by omega)
        · rw [(x2 i (by omega)).2, (x2 j (by omega)).2]; exact hb.2 i j hij (by omega)
  · exact hb
theorem exl_BM {h : Nat} {c : Cf} (hb : BM h c) : ∀ j, BM h (exl m h c j)
  | 0 => hb
  | j + 1 => stp_BM (exl_BM hb j) j
/-- all that can be come to from the first h has been come to -/
def BC (m : Nat → Nat) (h : Nat) (c : Cf) : Prop := ∀ i, i < h → ∀ w, w < vW m → gok m (c.2.1 i) w → ∃ j, j < c.1 ∧ c.2.1 j = nx m (c.2.1 i) w ∧ c.2.2 j ≤ i
theorem BC_ext {h : Nat} {c c' : Cf} (hh : h ≤ c.1) (hb : BC m h c) (hx : Ext c c') : BC m h c' := fun i hi w hw hg => by
  rw [(hx.2 i (by omega)).1] at hg ⊢
  obtain ⟨j, h1, h2, h3⟩ := hb i hi w hw hg
  exact ⟨j, Nat.lt_of_lt_of_le h1 hx.1, (hx.2 j h1).1.trans h2, by rw [(hx.2 j h1).2]; exact h3⟩
theorem exl_all {h : Nat} {c : Cf} (hh : h < c.1) (hm : BM h c) : ∀ j w, w < j → gok m (c.2.1 h) w → ∃ i, i < (exl m h c j).1 ∧ (exl m h c j).2.1 i = nx m (c.2.1 h) w ∧ (exl m h c j).2.2 i ≤ h
  | 0, w, hw, _ => absurd hw (Nat.not_lt_zero w)
  | j + 1, w, hw, hg => by
    have x := exl_ext (m := m) h c j
    have y := stp_ext (m := m) h (exl m h c j) j
    by_cases e : w = j
    · have eq : (exl m h c j).2.1 h = c.2.1 h := (x.2 h hh).1
      rw [exl, stp, eq, e]
      rw [e] at hg
      have hg : wy m (c.2.1 h).1 (c.2.1 h).2 j = 0 := hg
      rw [if_pos hg]
      by_cases c2 : inC (exl m h c j) (nx m (c.2.1 h) j) = true
      · rw [if_pos c2]
        obtain ⟨i, h1, h2⟩ := inC_iff.mp c2
        exact ⟨i, h1, h2, (exl_BM hm j).1 i h1⟩
      · rw [if_neg c2]
        obtain ⟨y1, y2⟩ := push_new (exl m h c j) (nx m (c.2.1 h) j) h
        exact ⟨(exl m h c j).1, by show _ < (exl m h c j).1 + 1; omega, y1, by rw [y2]; exact Nat.le_refl h⟩
    · obtain ⟨i, h1, h2, h3⟩ := exl_all hh hm j w (by omega) hg
      rw [exl]
      exact ⟨i, Nat.lt_of_lt_of_le h1 y.1, (y.2 i h1).1.trans h2, by rw [(y.2 i h1).2]; exact h3⟩
/-- a search that has looked at its first h -/
def BS (m : Nat → Nat) (s0 : St) (h : Nat) : Prop := BI m s0 (bfs m s0 h) ∧ BM h (bfs m s0 h) ∧ BC m h (bfs m s0 h) ∧ h ≤ (bfs m s0 h).1
theorem BS_0 {s0 : St} (h : okS m s0) : BS m s0 0 := ⟨BI_0 h, ⟨fun _ _ => Nat.le_refl 0, fun _ _ _ _ => Nat.le_refl 0⟩, fun i hi => absurd hi (Nat.not_lt_zero i), Nat.zero_le _⟩
theorem BS_s (hk : okm m) {s0 : St} {h : Nat} (hb : BS m s0 h) (hh : h < (bfs m s0 h).1) : BS m s0 (h + 1) := by
  obtain ⟨b1, b2, b3, b4⟩ := hb
  have x := exl_ext (m := m) h (bfs m s0 h) (vW m)
  refine ⟨exl_BI hk hh b1 (vW m) (Nat.le_refl _), ?_, fun i hi w hw hg => ?_, Nat.lt_of_lt_of_le hh x.1⟩
  · obtain ⟨m1, m2⟩ := exl_BM (m := m) b2 (vW m)
    exact ⟨fun i hi => Nat.le_trans (m1 i hi) (Nat.le_succ h), m2⟩
  · by_cases e : i = h
    · subst e
      have hg : gok m ((exl m i (bfs m s0 i) (vW m)).2.1 i) w := hg
      rw [(x.2 i hh).1] at hg
      obtain ⟨j, h1, h2, h3⟩ := exl_all hh b2 (vW m) w hw hg
      refine ⟨j, h1, ?_, h3⟩
      show (exl m i (bfs m s0 i) (vW m)).2.1 j = nx m ((exl m i (bfs m s0 i) (vW m)).2.1 i) w
      rw [(x.2 i hh).1]; exact h2
    · exact BC_ext b4 b3 x i (by omega) w hw hg
theorem bfs_ext (s0 : St) : ∀ h k, Ext (bfs m s0 h) (bfs m s0 (h + k))
  | h, 0 => Ext.rf _
  | h, k + 1 => (bfs_ext s0 h k).tr (exl_ext (h + k) (bfs m s0 (h + k)) (vW m))
end
