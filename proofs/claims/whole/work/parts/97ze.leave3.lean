/-! EVER: the reference leaves one out -/
section
variable {n : Nat} {S : rvS} {m : Nat → Nat} {s0 : St} {wd : Nat → List Nat}
abbrev LD : List Nat := [199, 207, 200]
theorem MI_pos {c : Cf} {P : List St} {s p : St} {L : List St} {x : KW} (h24 : vW m ≤ 24) (hs : s.1 < vW m) (hsP : s ∉ P) (h : MI m c P s L x) (hp : p ∉ L) (hx : nx m p s.1 = s) : inC c p = true → gok m p s.1 → 1 ≤ x.1 p ∧ x.1 p ≤ 24 := fun hi hg => by
  have h1 := h.1 p hi
  rw [if_neg (fun z => hp z.1), Nat.sub_zero] at h1
  have h2 := (nfo_app (m := m) (P := P) (p := p) hsP hs).2 ⟨hg, hx⟩
  have h3 := nfo_le (m := m) (P := P) p
  omega
theorem MI_len {c : Cf} (hb : BI m s0 c) {P : List St} {s : St} {L : List St} {x : KW} (h : MI m c P s L x) : x.2.length ≤ c.1 := inC_few hb h.2.2.1 fun p hp => ((h.2.1 p).mp hp).1
/-- the first y of a row of candidates looked at -/
def Fl (m : Nat → Nat) (c : Cf) (o : Nat) (f : Nat → St) (x : KW) (y : Nat) : KW := ((List.range y).map f).foldl (lo1 m c o) x
theorem Fl_s (c : Cf) (o : Nat) (f : Nat → St) (x : KW) (y : Nat) : Fl m c o f x (y + 1) = lo1 m c o (Fl m c o f x y) (f y) := by
  rw [Fl, List.range_succ, List.map_append, List.foldl_append]
  rfl
theorem MI_Fl {c : Cf} {P : List St} {s : St} (hs : s.1 < vW m) (hsP : s ∉ P) (hl : s.2.length ≤ vN m) {f : Nat → St} {L0 : List St} {x : KW} (hnd : ∀ y, (L0 ++ (List.range y).map f).Nodup) (hf : ∀ y, y < vW m → f y ∈ cand m s) (h : MI m c P s L0 x) {y : Nat} (hy : y ≤ vW m) : MI m c P s (L0 ++ (List.range y).map f) (Fl m c s.1 f x y) := MI_fold hs hsP (fun p hp => cand_nx hl hp) _ L0 x (hnd y) (fun p hp => by
    obtain ⟨z, hz, e⟩ := List.mem_map.mp hp
    rw [← e]
    exact hf z (by have := List.mem_range.mp hz; omega)) h
theorem notmem_Fl {f : Nat → St} {L0 : List St} (hnd : ∀ y, (L0 ++ (List.range y).map f).Nodup) (y : Nat) : f y ∉ L0 ++ (List.range y).map f := fun hm => by
  have h := hnd (y + 1)
  rw [List.range_succ, List.map_append, ← List.append_assoc] at h
  exact (List.nodup_append.mp h).2.2 _ hm (f y) (by simp) rfl
theorem m_bare (hn : 50 ≤ n) (hk : okm m) (hl0 : s0.2.length ≤ vN m) {c : Cf} (hb : BI m s0 c) (hcap : c.1 ≤ 255640) {P : List St} {s : St} (hs : s.1 < vW m) (hsP : s ∉ P) (hl : s.2.length ≤ vN m) (hN : vN m = 0) {x : KW} (h : MI m c P s [] x) (x2 : Int32) : ∀ k y q (S : rvS), y + k = vW m → rv_B S → MR S m → RQ S c → EWR S c (Fl m c s.1 (fun z => (z, [])) x y) → ∃ S', cX13_leaveOutBare_6 n (q + k + 1) S 189 (nI s.1) (nI (Fl m c s.1 (fun z => (z, [])) x y).2.length) (nI y) = some (nI (Fl m c s.1 (fun z => (z, [])) x (vW m)).2.length, S') ∧ rvf LD S S' ∧ EWR S' c (Fl m c s.1 (fun z => (z, [])) x (vW m)) := by
  obtain ⟨hp, hc, -⟩ := id hk
  have h24 := hp.1
  have hnd : ∀ y, ([] ++ (List.range y).map (fun z => ((z, []) : St))).Nodup := fun y => by
    rw [List.nil_append]; exact nodup_map_range (fun a b e => congrArg Prod.fst e) y
  have hf : ∀ y, y < vW m → ((y, []) : St) ∈ cand m s := fun y hy => by
    unfold cand
    rw [if_pos hN]
    exact List.mem_map.mpr ⟨y, List.mem_range.mpr hy, rfl⟩
  intro k
  induction k with
  | zero =>
    intro y q S hy hB hM hQ hE
    have e : y = vW m := by omega
    subst e
    refine ⟨S, ?_, rvf.rf _ _, hE⟩
    rw [cX13_leaveOutBare_6, rc_189 hB, Option.bind_some, m_whos hB hM, Option.bind_some, if_pos (by rw [n_le (by omega) (by omega)]; omega)]
  | succ k ih =>
    intro y q S hy hB hM hQ hE
    have hyW : y < vW m := by omega
    have mi := MI_Fl (m := m) hs hsP hl hnd hf h (y := y) (by omega)
    have hx := cand_nx hl (hf y hyW)
    have hpos := MI_pos h24 hs hsP mi (notmem_Fl hnd y) hx
    have hlen := MI_len hb mi
    obtain ⟨S1, eS1⟩ : ∃ S1, S1 = rv_sI S 199 0 (nI y) := ⟨_, rfl⟩
    have f1 : rvf [199] S S1 := by rw [eS1]; exact (rvf.rf _ _).w rfl rfl
    have hB1 := f1.B hB
    obtain ⟨S2, eS2⟩ : ∃ S2, S2 = rv_sI S1 199 1 (nI 0) := ⟨_, rfl⟩
    have f2 : rvf [199] S1 S2 := by rw [eS2]; exact (rvf.rf _ _).w rfl rfl
    have f12 := f1.tr f2
    have hB2 := f12.B hB
    have H2 : HR S2 y [] := ⟨by rw [eS2, rv_sI_k _ _ (by decide), eS1, rv_sI_eq], by rw [eS2, rv_sI_eq]; rfl, fun i z hz => by simp at hz⟩
    have hop : okS m ((y, []) : St) := ⟨hyW, Nat.zero_le 3, fun z hz => absurd hz List.not_mem_nil⟩
    obtain ⟨S3, e3, f3, E3⟩ := m_lo (n := n) hn hB2 (hM.f f12 rfl) hk hl0 hb (hQ.f f12 rfl rfl rfl) (hE.f f12 rfl rfl) (Nat.le_trans hlen hcap) (p := (y, [])) H2 hop hs hpos (fun a0 x3 x4 _ _ _ _ x9 S => cX13_leaveOutBare_6 n (q + k + 1) S a0 x4 x3 x9) (nI 0) (nI 0) (nI 0) (nI 0) (nI y)
    rw [← Fl_s] at e3 E3
    have hB3 := f3.B hB2
    obtain ⟨S4, e4, f4, E4⟩ := ih (y + 1) q S3 (by omega) hB3 ((hM.f f12 rfl).f f3 rfl) ((hQ.f f12 rfl rfl rfl).f f3 rfl rfl rfl) E3
    refine ⟨S4, ?_, (f12.mono rfl).tr ((f3.mono rfl).tr f4), E4⟩
    have ny : ¬ nI (vW m) ≤ nI y := by rw [n_le (by omega) (by omega)]; omega
    have r24 := rf_of hB (show (189, 24, 199) ∈ rv_rf0 by decide)
    have r24a := rf_of hB1 (show (189, 24, 199) ∈ rv_rf0 by decide)
    have top : cX13_leaveOutBare_6 n (q + (k + 1) + 1) S 189 (nI s.1) (nI (Fl m c s.1 (fun z => (z, [])) x y).2.length) (nI y) = cX13_leaveOut_210 n (fun a0 x3 x4 _ _ _ _ x9 S => cX13_leaveOutBare_6 n (q + k + 1) S a0 x4 x3 x9) S2 189 (nI (Fl m c s.1 (fun z => (z, [])) x y).2.length) (nI s.1) (nI 0) (nI 0) (nI 0) (nI 0) (nI y) := by
      rw [cX13_leaveOutBare_6, cX13_leaveOut_210, rc_189 hB, Option.bind_some, m_whos hB hM, Option.bind_some, if_neg ny, tk_gR, rc_189 hB, Option.bind_some, r24, Option.bind_some, z0, rv_uI, rn_199 hB, Option.bind_some, tk_ix (by decide) (by decide), Option.bind_some, Option.bind_some, ← eS1, tk_gR, rc_189 hB1, Option.bind_some, r24a, Option.bind_some, z1, rv_uI, rn_199 hB1, Option.bind_some, tk_ix (by decide) (by decide), Option.bind_some, Option.bind_some, ← eS2]
      rfl
    rw [top, e3, z1, nI_add]
    exact e4
end
