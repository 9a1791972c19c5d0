/-! THE INVARIANT of the law's loop -/
section
variable {n : Nat} {S S' : rvS} {m m' : Nat → Nat} {wd : Nat → List Nat} {o i : Nat} {st : List SayT} {D : List Nat}
def Iv (i : Nat) (S : rvS) : Prop := (∃ m wd o st, NW S m wd o st) ∧ PK S ∧ GW S ∧ HD S ∧ OV S ∧ HV S ∧ DW S ∧ (∃ Lt, rv_tp S Lt) ∧ S.2.1 64 11 = S.2.1 189 10 ∧ (∃ k, k ≤ i ∧ S.1 = rv_sh0 ++ List.replicate k (9, 8)) ∧ ∃ w, w ≤ i ∧ S.2.1 60 0 = nI w ∧ S.2.1 60 1 = nI (6 * w)
theorem NW.f (h : NW S m wd o st) (f : rvf D S S') (hd : [67, 68, 69, 70, 71, 72, 73, 74, 75, 76, 77, 78, 79, 80, 81, 82, 84, 85, 86, 195, 191, 189022].all (fun a => !D.elem a) = true) : NW S' m wd o st := by
  have g : ∀ a, a ∈ [67, 68, 69, 70, 71, 72, 73, 74, 75, 76, 77, 78, 79, 80, 81, 82, 84, 85, 86, 195, 191, 189022] → D.elem a = false := fun a ha => by
    have := List.all_eq_true.mp hd a ha
    simpa using this
  have hd2 : [67, 68, 69, 70, 71, 72, 73, 74, 75, 76, 77, 78, 84, 85, 86, 195].all (fun a => !D.elem a) = true := List.all_eq_true.mpr fun a ha => by
    have := g a (by
      simp only [List.mem_cons, List.not_mem_nil, or_false] at ha ⊢
      omega)
    rw [this]
    rfl
  obtain ⟨hV, hC, hCp⟩ := h
  refine ⟨hV.q f hd2 (hV.2.2.1.f f (g 191 (by decide)) (g 189022 (by decide))), hC.f (fun x hx => funext fun k => ?_) (fun k => f.rowR (a := 80) rfl (g 80 (by decide)) k), hCp.c (fun j hj => f.row (a := 191) rfl (g 191 (by decide)) _)⟩
  rcases hx with rfl | rfl | rfl
  · exact f.row (a := 79) rfl (g 79 (by decide)) k
  · exact f.row (a := 81) rfl (g 81 (by decide)) k
  · exact f.row (a := 82) rfl (g 82 (by decide)) k
theorem NW.qd (h : NW S m wd o st) (q : QD D S S' m' wd) (e6 : m' 6 = m 6) (hd : [79, 80, 81, 82].all (fun a => !D.elem a) = true) : NW S' m' wd o st := by
  have g : ∀ a, a ∈ [79, 80, 81, 82] → D.elem a = false := fun a ha => by
    have := List.all_eq_true.mp hd a ha
    simpa using this
  obtain ⟨hV, hC, hCp⟩ := h
  obtain ⟨q1, f, r⟩ := q
  refine ⟨q1, hC.f (fun x hx => funext fun k => ?_) (fun k => f.rowR (a := 80) rfl (g 80 (by decide)) k), ?_⟩
  · rcases hx with rfl | rfl | rfl
    · exact f.row (a := 79) rfl (g 79 (by decide)) k
    · exact f.row (a := 81) rfl (g 81 (by decide)) k
    · exact f.row (a := 82) rfl (g 82 (by decide)) k
  · rw [e6]
    exact hCp.c (fun j hj => r _ (by omega))
theorem tp_f {L : Nat} (h : rv_tp S L) (f : rvf D S S') (h1 : D.elem 65001 = false) (h2 : D.elem 189002 = false) (h3 : D.elem 66 = false) (h4 : D.elem 190 = false) : rv_tp S' L := by
  obtain ⟨a1, a2, a3, a4⟩ := h
  refine ⟨a1, (f.at (a := 65) (k := 1) h1).trans a2, (f.at (a := 189) (k := 2) h2).trans a3, fun j hj => ?_⟩
  obtain ⟨b, b1, b2, b3⟩ := a4 j hj
  exact ⟨b, b1, (f.row rfl h4 j).trans b2, by rw [f.row (a := 66) rfl h3]; exact b3⟩
theorem sh_f (h : ∃ k, k ≤ i ∧ S.1 = rv_sh0 ++ List.replicate k (9, 8)) (e : S'.1 = S.1) : ∃ k, k ≤ i + 1 ∧ S'.1 = rv_sh0 ++ List.replicate k (9, 8) := by
  obtain ⟨k, h1, h2⟩ := h
  exact ⟨k, by omega, e.trans h2⟩
theorem w_f (h : ∃ w, w ≤ i ∧ S.2.1 60 0 = nI w ∧ S.2.1 60 1 = nI (6 * w)) (f : rvf D S S') (h1 : D.elem 60 = false) : ∃ w, w ≤ i + 1 ∧ S'.2.1 60 0 = nI w ∧ S'.2.1 60 1 = nI (6 * w) := by
  obtain ⟨w, h2, h3, h4⟩ := h
  exact ⟨w, by omega, (f.row (a := 60) rfl h1 0).trans h3, (f.row (a := 60) rfl h1 1).trans h4⟩
theorem fl_f (h : S.2.1 64 11 = S.2.1 189 10) (f : rvf D S S') (h1 : D.elem 64011 = false) (h2 : D.elem 189010 = false) : S'.2.1 64 11 = S'.2.1 189 10 := ((f.at (a := 64) (k := 11) h1).trans h).trans (f.at (a := 189) (k := 10) h2).symm
/-- all but the valley as it was -/
theorem Iv.fr (h : Iv i S) (f : rvf D S S') (hW : ∃ m wd o st, NW S' m wd o st) (hP : DP.all (fun d => !D.elem d) = true) (hd : [64012, 64013, 189028, 201, 111005, 189036, 115, 208, 118005, 189043, 122, 211, 111008, 189047, 117, 214, 64010, 147, 215, 60, 64011, 65001, 66, 189002, 189010, 190].all (fun d => !D.elem d) = true) : Iv (i + 1) S' := by
  have g : ∀ a, a ∈ [64012, 64013, 189028, 201, 111005, 189036, 115, 208, 118005, 189043, 122, 211, 111008, 189047, 117, 214, 64010, 147, 215, 60, 64011, 65001, 66, 189002, 189010, 190] → D.elem a = false := fun a ha => by
    have := List.all_eq_true.mp hd a ha
    simpa using this
  obtain ⟨-, a2, a3, a4, a5, a6, a7, ⟨Lt, a8⟩, a9, a10, a11⟩ := h
  exact ⟨hW, a2.f f hP, a3.f f (g _ (by decide)) (g _ (by decide)) (g _ (by decide)) (g _ (by decide)), a4.f f (g _ (by decide)) (g _ (by decide)) (g _ (by decide)) (g _ (by decide)), a5.f f (g _ (by decide)) (g _ (by decide)) (g _ (by decide)) (g _ (by decide)), a6.f f (g _ (by decide)) (g _ (by decide)) (g _ (by decide)) (g _ (by decide)), a7.f f (g _ (by decide)) (g _ (by decide)) (g _ (by decide)), ⟨Lt, tp_f a8 f (g _ (by decide)) (g _ (by decide)) (g _ (by decide)) (g _ (by decide))⟩, fl_f a9 f (g _ (by decide)) (g _ (by decide)), sh_f a10 f.1, w_f a11 f (g _ (by decide))⟩
theorem Iv.q (h : Iv i S) (hW : NW S m wd o st) (q : QS S S' m' wd) (e6 : m' 6 = m 6) : Iv (i + 1) S' := h.fr q.2.1 ⟨m', wd, o, st, hW.qd (D := DV) q e6 (by decide +kernel)⟩ (by decide +kernel) (by decide +kernel)
/-- longs elsewhere -/
def lsw (S : rvS) (l : Nat → Nat → Int64) : rvS := (S.1, S.2.1, l, S.2.2.2)
theorem NW.l {l : Nat → Nat → Int64} (h : NW S m wd o st) (e : ∀ a, a ≠ 65 → a ≠ 66 → a ≠ 189 → a ≠ 190 → l a = S.2.2.1 a) : NW (lsw S l) m wd o st := by
  obtain ⟨⟨hB, hR, hL, hk, hN, hM, hok⟩, hC, hCp⟩ := h
  refine ⟨⟨hB, hR, hL, hk, fun w hw => ?_, fun w hw => ?_, hok⟩, hC, hCp⟩
  · exact (congrFun (e (67 + 5) (by decide) (by decide) (by decide) (by decide)) w).trans (hN w hw)
  · exact (congrFun (e 195 (by decide) (by decide) (by decide) (by decide)) w).trans (hM w hw)
theorem PK.l {l : Nat → Nat → Int64} (h : PK S) (e : ∀ a, a ≠ 65 → a ≠ 66 → a ≠ 189 → a ≠ 190 → l a = S.2.2.1 a) : PK (lsw S l) := by
  obtain ⟨pk, h1, h2, h3⟩ := h
  refine ⟨pk, h1, h2, fun k hk => ⟨(h3 k hk).1, fun hb => ?_⟩⟩
  obtain ⟨m, wd, o, st, p1, p2, p3, p4, p5, p6, p7, p8⟩ := (h3 k hk).2 hb
  refine ⟨m, wd, o, st, p1, fun w hw => ?_, p3, p4, p5, p6, fun w hw => ?_, p8⟩
  · have hkk : k = 0 ∨ k = 1 := by omega
    exact (congrFun (e (149 + 20 * k + 5) (by omega) (by omega) (by omega) (by omega)) w).trans (p2 w hw)
  · exact (congrFun (e 197 (by decide) (by decide) (by decide) (by decide)) _).trans (p7 w hw)
theorem GW.l {l : Nat → Nat → Int64} (h : GW S) (e : ∀ a, a ≠ 65 → a ≠ 66 → a ≠ 189 → a ≠ 190 → l a = S.2.2.1 a) : GW (lsw S l) := by
  rcases h with ⟨k, X, g1, g2, g3, g4⟩ | h
  · exact Or.inl ⟨k, X, g1, g2, (congrFun (e 64 (by decide) (by decide) (by decide) (by decide)) 12).trans g3, g4⟩
  · exact Or.inr h
/-- the tape alone is written -/
theorem Iv.tape (h : Iv i S) (fr : rv_fr [65, 66, 189, 190] S S') {L : Nat} (ht : rv_tp S' L) (e1 : ∀ k, k ≠ 1 → S'.2.1 65 k = S.2.1 65 k) (e2 : ∀ k, k ≠ 0 → k ≠ 2 → S'.2.1 189 k = S.2.1 189 k) : Iv (i + 1) S' := by
  have e : ∀ a, a ≠ 65 → a ≠ 66 → a ≠ 189 → a ≠ 190 → S'.2.2.1 a = S.2.2.1 a := fun a h1 h2 h3 h4 => (fr.2.2 a (by
    simp only [List.mem_cons, List.not_mem_nil, or_false]
    omega)).2
  obtain ⟨⟨m, wd, o, st, hW⟩, a2, a3, a4, a5, a6, a7, -, a9, a10, a11⟩ := h
  have f : rvf [65001, 66, 189000, 189002, 190] (lsw S S'.2.2.1) S' := by
    refine ⟨fr.1, rvr.rf fr.2.1, fun a k ha => ⟨?_, rfl⟩⟩
    show S'.2.1 a k = S.2.1 a k
    by_cases c1 : a = 65
    · rw [c1] at ha ⊢
      refine e1 k (fun z => ha ?_)
      rw [z]
      decide
    · by_cases c2 : a = 189
      · rw [c2] at ha ⊢
        refine e2 k (fun z => ha ?_) (fun z => ha ?_)
        · rw [z]; decide
        · rw [z]; decide
      · refine congrFun (fr.2.2 a (fun z => ha ?_)).1 k
        simp only [List.mem_cons, List.not_mem_nil, or_false] at z
        rcases z with z | z | z | z
        · exact absurd z c1
        · rw [z, lc_row rfl]; decide
        · exact absurd z c2
        · rw [z, lc_row rfl]; decide
  exact ⟨⟨m, wd, o, st, (hW.l e).f f rfl⟩, (a2.l e).f f (by decide +kernel), (a3.l e).f f rfl rfl rfl rfl, HD.f (S := lsw S S'.2.2.1) a4 f rfl rfl rfl rfl, OV.f (S := lsw S S'.2.2.1) a5 f rfl rfl rfl rfl, HV.f (S := lsw S S'.2.2.1) a6 f rfl rfl rfl rfl, DW.f (S := lsw S S'.2.2.1) a7 f rfl rfl rfl, ⟨L, ht⟩, fl_f (S := lsw S S'.2.2.1) a9 f rfl rfl, sh_f a10 fr.1, w_f (S := lsw S S'.2.2.1) a11 f rfl⟩
theorem ckS {S1 : rvS} {c a : Nat} (e : S1.1 = S.1) (h : rv_ck S c a = some ()) : rv_ck S1 c a = some () := by
  unfold rv_ck rv_isB at h ⊢
  rw [e]
  exact h
theorem Iv.len (h : Iv i S) : 218 ≤ 64 + S.1.length ∧ S.1.length ≤ 154 + i := by
  obtain ⟨-, -, -, -, -, -, -, -, -, ⟨k, hk, e⟩, -⟩ := h
  rw [e, List.length_append, List.length_replicate, sh0_len]
  omega
theorem Iv.vl (h : Iv i S) : rv_vl S 64 = some () ∧ rv_vl S 189 = some () ∧ rv_vl S 217 = some () := by
  have := h.len.1
  exact ⟨if_pos (by omega), if_pos (by omega), if_pos (by omega)⟩
theorem ixp {L p k : Nat} (hp : p + k < L) (hL : L ≤ 3072) : rv_ix L (nI p + nI k) = some (p + k) := by
  rw [nI_add]
  exact tk_ix hp (by omega)
end
