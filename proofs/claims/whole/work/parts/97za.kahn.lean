/-! EVER: leaving out what ends (pure) -/
section
variable {m : Nat → Nat} {s0 : St}
/-- how many of p's followers are not yet left out -/
def nfo (m : Nat → Nat) (P : List St) (p : St) : Nat := fb_ct (fun w => decide (wy m p.1 p.2 w = 0) && !decide (nx m p w ∈ P)) (vW m)
theorem nfo_le {P : List St} (p : St) : nfo m P p ≤ vW m := fb_ct_le _ _
theorem nfo_app {P : List St} {p s : St} (hn : s ∉ P) (hs : s.1 < vW m) : nfo m (P ++ [s]) p = nfo m P p - (if gok m p s.1 ∧ nx m p s.1 = s then 1 else 0) ∧ (gok m p s.1 ∧ nx m p s.1 = s → 1 ≤ nfo m P p) := by
  by_cases c : gok m p s.1 ∧ nx m p s.1 = s
  · have hw : (decide (wy m p.1 p.2 s.1 = 0) && !decide (nx m p s.1 ∈ P)) = true := by
      rw [decide_eq_true c.1, c.2, decide_eq_false hn]; rfl
    have one : 1 ≤ nfo m P p := fb_ct_pos.mpr ⟨s.1, hs, hw⟩
    refine ⟨?_, fun _ => one⟩
    have u := fb_ct_upd (fun w => decide (wy m p.1 p.2 w = 0) && !decide (nx m p w ∈ P)) false hs
    rw [hw] at u
    have e : fb_ct (fun k => if k = s.1 then false else (decide (wy m p.1 p.2 k = 0) && !decide (nx m p k ∈ P))) (vW m) = nfo m (P ++ [s]) p := fb_ct_cong fun k _ => by
      by_cases ck : k = s.1
      · rw [if_pos ck, ck, c.2, decide_eq_true (show s ∈ P ++ [s] by simp)]
        simp
      · rw [if_neg ck]
        congr 2
        refine decide_eq_decide.mpr ⟨fun h => List.mem_append_left _ h, fun h => ?_⟩
        rcases List.mem_append.mp h with h | h
        · exact h
        · have : nx m p k = s := List.mem_singleton.mp h
          exact absurd (congrArg Prod.fst this) ck
    rw [e] at u
    rw [if_pos c]
    have u : nfo m (P ++ [s]) p + 1 = nfo m P p + 0 := u
    omega
  · refine ⟨?_, fun z => absurd z c⟩
    rw [if_neg c, Nat.sub_zero]
    refine fb_ct_cong fun k _ => ?_
    by_cases g : wy m p.1 p.2 k = 0
    · rw [decide_eq_true g, Bool.true_and, Bool.true_and]
      congr 1
      refine decide_eq_decide.mpr ⟨fun h => ?_, fun h => List.mem_append_left _ h⟩
      rcases List.mem_append.mp h with h | h
      · exact h
      · have : nx m p k = s := List.mem_singleton.mp h
        have e : k = s.1 := congrArg Prod.fst this
        rw [e] at g this
        exact absurd ⟨g, this⟩ c
    · rw [decide_eq_false g, Bool.false_and, Bool.false_and]
theorem nfo_zero {P : List St} {p : St} (h : nfo m P p = 0) : ∀ w, w < vW m → gok m p w → nx m p w ∈ P := fun w hw hg => by
  have := fb_ct_zero.mp h w hw
  rw [decide_eq_true (show wy m p.1 p.2 w = 0 from hg), Bool.true_and] at this
  by_cases c : nx m p w ∈ P
  · exact c
  · rw [decide_eq_false c] at this
    exact absurd this (by decide)
theorem nfo_some {P : List St} {p : St} (h : ¬ nfo m P p = 0) : ∃ w, w < vW m ∧ gok m p w ∧ nx m p w ∉ P := by
  obtain ⟨w, hw, h2⟩ := fb_ct_pos.mp (Nat.pos_of_ne_zero h)
  rw [Bool.and_eq_true, decide_eq_true_eq] at h2
  refine ⟨w, hw, h2.1, fun z => ?_⟩
  have := h2.2
  rw [decide_eq_true z] at this
  exact absurd this (by decide)
/-- from whom s may have been come to -/
def cand (m : Nat → Nat) (s : St) : List St :=
  if vN m = 0 then (List.range (vW m)).map fun x => (x, []) else match s.2 with
    | [] => []
    | b :: r => (b, r) :: (if r.length + 1 < vN m then [] else (List.range (vW m)).map fun x => (b, r ++ [x]))
theorem cand_nx {s p : St} (hl : s.2.length ≤ vN m) (h : p ∈ cand m s) : nx m p s.1 = s := by
  unfold cand at h
  by_cases c : vN m = 0
  · rw [if_pos c] at h
    obtain ⟨x, -, e⟩ := List.mem_map.mp h
    refine Prod.ext rfl ?_
    show (p.1 :: p.2).take (vN m) = s.2
    rw [c] at hl ⊢
    rw [List.take_zero]
    exact (List.eq_nil_of_length_eq_zero (by omega)).symm
  · rw [if_neg c] at h
    refine Prod.ext rfl ?_
    show (p.1 :: p.2).take (vN m) = s.2
    match hs : s.2, h with
    | b :: r, h =>
      rw [hs] at hl
      have hl : r.length + 1 ≤ vN m := hl
      rcases List.mem_cons.mp h with e | h
      · rw [e]
        exact List.take_of_length_le hl
      · by_cases c2 : r.length + 1 < vN m
        · rw [if_pos c2] at h; exact absurd h List.not_mem_nil
        · rw [if_neg c2] at h
          obtain ⟨x, -, e⟩ := List.mem_map.mp h
          rw [← e]
          show (b :: (r ++ [x])).take (vN m) = b :: r
          have : vN m = r.length + 1 := by omega
          rw [this, List.take_succ_cons, List.take_left]
theorem cand_all {s p : St} (hp : okS m p) (hl : p.2.length ≤ vN m) (h : nx m p s.1 = s) : p ∈ cand m s := by
  have e : (p.1 :: p.2).take (vN m) = s.2 := congrArg Prod.snd h
  unfold cand
  by_cases c : vN m = 0
  · rw [if_pos c]
    refine List.mem_map.mpr ⟨p.1, List.mem_range.mpr hp.1, Prod.ext rfl ?_⟩
    exact (List.eq_nil_of_length_eq_zero (by omega)).symm
  · rw [if_neg c]
    obtain ⟨N, hN⟩ : ∃ N, vN m = N + 1 := ⟨vN m - 1, by omega⟩
    rw [hN, List.take_succ_cons] at e
    rw [← e]
    show p ∈ (p.1, p.2.take N) :: _
    by_cases c2 : p.2.length ≤ N
    · rw [List.take_of_length_le c2]
      exact List.mem_cons_self
    · have hlen : p.2.length = N + 1 := by omega
      refine List.mem_cons_of_mem _ ?_
      rw [if_neg (by rw [List.length_take]; omega)]
      have hx : N < p.2.length := by omega
      refine List.mem_map.mpr ⟨p.2[N], List.mem_range.mpr (hp.2.2 _ (List.getElem_mem hx)), Prod.ext rfl ?_⟩
      show p.2.take N ++ [p.2[N]] = p.2
      rw [List.take_append_getElem hx, List.take_of_length_le (by omega)]
theorem nodup_map_range {f : Nat → St} (hf : ∀ a b, f a = f b → a = b) : ∀ k, ((List.range k).map f).Nodup := by
  intro k
  induction k with
  | zero => exact List.nodup_nil
  | succ k ih =>
    rw [List.range_succ, List.map_append]
    refine List.nodup_append.mpr ⟨ih, by simp, fun a ha b hb e => ?_⟩
    obtain ⟨x, hx, e1⟩ := List.mem_map.mp ha
    have hb : b = f k := by simpa using hb
    have := hf x k (e1.trans (e.trans hb))
    have := List.mem_range.mp hx
    omega
theorem cand_nodup (s : St) : (cand m s).Nodup := by
  unfold cand
  by_cases c : vN m = 0
  · rw [if_pos c]
    exact nodup_map_range (fun a b e => congrArg Prod.fst e) _
  · rw [if_neg c]
    match s.2 with
    | [] => exact List.nodup_nil
    | b :: r =>
      by_cases c2 : r.length + 1 < vN m
      · show ((b, r) :: (if r.length + 1 < vN m then [] else _)).Nodup
        rw [if_pos c2]
        exact List.nodup_cons.mpr ⟨List.not_mem_nil, List.nodup_nil⟩
      · show ((b, r) :: (if r.length + 1 < vN m then [] else _)).Nodup
        rw [if_neg c2]
        refine List.nodup_cons.mpr ⟨fun h => ?_, nodup_map_range (fun a b' e => ?_) _⟩
        · obtain ⟨x, -, e⟩ := List.mem_map.mp h
          have : (r ++ [x]).length = r.length := congrArg List.length (congrArg Prod.snd e)
          rw [List.length_append] at this
          simp at this
        · have : r ++ [a] = r ++ [b'] := congrArg Prod.snd e
          have := List.append_cancel_left this
          exact List.head_eq_of_cons_eq this
/-- one candidate looked at: the followers counted, the ends -/
abbrev KW := (St → Nat) × List St
def lo1 (m : Nat → Nat) (c : Cf) (o : Nat) (x : KW) (p : St) : KW := if inC c p = true ∧ gok m p o then ((fun q => if q = p then x.1 p - 1 else x.1 q), if x.1 p = 1 then x.2 ++ [p] else x.2) else x
/-- what is true while the followers of s are lessened, those of L being done -/
def MI (m : Nat → Nat) (c : Cf) (P : List St) (s : St) (L : List St) (x : KW) : Prop := (∀ p, inC c p = true → x.1 p = nfo m P p - (if p ∈ L ∧ gok m p s.1 then 1 else 0)) ∧ (∀ p, p ∈ x.2 ↔ inC c p = true ∧ x.1 p = 0) ∧ x.2.Nodup ∧ Top m x.2.reverse ∧ (∀ q ∈ P ++ [s], q ∈ x.2)
theorem MI_step {c : Cf} {P : List St} {s p : St} {L : List St} {x : KW} (hs : s.1 < vW m) (hsP : s ∉ P) (h : MI m c P s L x) (hp : p ∉ L) (hx : nx m p s.1 = s) : MI m c P s (L ++ [p]) (lo1 m c s.1 x p) := by
  obtain ⟨h1, h2, h3, h4, h5⟩ := h
  unfold lo1
  by_cases cc : inC c p = true ∧ gok m p s.1
  · rw [if_pos cc]
    have hone := (nfo_app (m := m) (P := P) (p := p) hsP hs).2 ⟨cc.2, hx⟩
    have hxp : x.1 p = nfo m P p := by
      rw [h1 p cc.1, if_neg (fun z => hp z.1), Nat.sub_zero]
    have pe : p ∉ x.2 := fun z => by
      have := ((h2 p).mp z).2
      omega
    have f1 : ∀ q, inC c q = true → (if q = p then x.1 p - 1 else x.1 q) = nfo m P q - (if q ∈ L ++ [p] ∧ gok m q s.1 then 1 else 0) := fun q hq => by
      by_cases e : q = p
      · rw [if_pos e, e, if_pos ⟨by simp, cc.2⟩, hxp]
      · rw [if_neg e, h1 q hq]
        congr 1
        have : (q ∈ L ++ [p] ∧ gok m q s.1) ↔ (q ∈ L ∧ gok m q s.1) := by
          rw [List.mem_append, List.mem_singleton]
          exact ⟨fun z => ⟨z.1.resolve_right e, z.2⟩, fun z => ⟨Or.inl z.1, z.2⟩⟩
        by_cases d : q ∈ L ∧ gok m q s.1
        · rw [if_pos d, if_pos (this.mpr d)]
        · rw [if_neg d, if_neg (fun z => d (this.mp z))]
    by_cases c1 : x.1 p = 1
    · rw [if_pos c1]
      refine ⟨f1, fun q => ?_, ?_, ?_, fun q hq => List.mem_append_left _ (h5 q hq)⟩
      · show q ∈ x.2 ++ [p] ↔ inC c q = true ∧ (if q = p then x.1 p - 1 else x.1 q) = 0
        rw [List.mem_append, List.mem_singleton]
        by_cases e : q = p
        · rw [if_pos e, e]
          exact ⟨fun _ => ⟨cc.1, by omega⟩, fun _ => Or.inr rfl⟩
        · rw [if_neg e, h2 q]
          exact ⟨fun z => z.resolve_right e, fun z => Or.inl z⟩
      · show (x.2 ++ [p]).Nodup
        refine List.nodup_append.mpr ⟨h3, by simp, fun a ha b hb e => ?_⟩
        rw [List.mem_singleton] at hb
        rw [e, hb] at ha
        exact pe ha
      · show Top m (x.2 ++ [p]).reverse
        rw [List.reverse_append]
        refine ⟨fun w hw hg => ?_, h4⟩
        show nx m p w ∈ x.2.reverse
        rw [List.mem_reverse]
        refine h5 _ ?_
        have z0' : nfo m (P ++ [s]) p = 0 := by
          rw [(nfo_app (m := m) (P := P) (p := p) hsP hs).1, if_pos ⟨cc.2, hx⟩]
          omega
        exact nfo_zero z0' w hw hg
    · rw [if_neg c1]
      refine ⟨f1, fun q => ?_, h3, h4, h5⟩
      show q ∈ x.2 ↔ inC c q = true ∧ (if q = p then x.1 p - 1 else x.1 q) = 0
      by_cases e : q = p
      · rw [if_pos e, e]
        exact ⟨fun z => absurd z pe, fun z => by have := z.2; omega⟩
      · rw [if_neg e]; exact h2 q
  · rw [if_neg cc]
    refine ⟨fun q hq => ?_, h2, h3, h4, h5⟩
    rw [h1 q hq]
    congr 1
    have : (q ∈ L ++ [p] ∧ gok m q s.1) ↔ (q ∈ L ∧ gok m q s.1) := by
      rw [List.mem_append, List.mem_singleton]
      refine ⟨fun z => ⟨z.1.resolve_right fun e => cc ⟨e ▸ hq, e ▸ z.2⟩, z.2⟩, fun z => ⟨Or.inl z.1, z.2⟩⟩
    by_cases d : q ∈ L ∧ gok m q s.1
    · rw [if_pos d, if_pos (this.mpr d)]
    · rw [if_neg d, if_neg (fun z => d (this.mp z))]
theorem MI_fold {c : Cf} {P : List St} {s : St} (hs : s.1 < vW m) (hsP : s ∉ P) (hx : ∀ p ∈ cand m s, nx m p s.1 = s) : ∀ (C L : List St) (x : KW), (L ++ C).Nodup → (∀ p ∈ C, p ∈ cand m s) → MI m c P s L x → MI m c P s (L ++ C) (C.foldl (lo1 m c s.1) x) := by
  intro C
  induction C with
  | nil => intro L x _ _ h; rw [List.append_nil]; exact h
  | cons p C ih =>
    intro L x hn hc h
    have e : L ++ p :: C = (L ++ [p]) ++ C := by simp
    rw [e, List.foldl_cons]
    have hpL : p ∉ L := fun z => (List.nodup_append.mp hn).2.2 p z p List.mem_cons_self rfl
    exact ih (L ++ [p]) _ (by rw [← e]; exact hn) (fun q hq => hc q (List.mem_cons_of_mem _ hq)) (MI_step hs hsP h hpL (hx p (hc p List.mem_cons_self)))
/-- between two: a of the ends have been left out -/
def KI (m : Nat → Nat) (c : Cf) (a : Nat) (x : KW) : Prop := (∀ p, inC c p = true → x.1 p = nfo m (x.2.take a) p) ∧ (∀ p, p ∈ x.2 ↔ inC c p = true ∧ x.1 p = 0) ∧ x.2.Nodup ∧ Top m x.2.reverse
end
