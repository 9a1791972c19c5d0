/-! WHAT A BODY DOES, as a function that may say none: reads and writes of cells with their tests; the rules once more, by these -/
def rv_lt {α β : Type} (e : α) (f : α → β) : β := f e
def rv_bp {α β : Type} (o : Option (α × rvS)) (f : α → rvS → Option β) : Option β := match o with
  | some q => f q.1 q.2
  | none => none
theorem rv_lt_e {α β : Type} {e : α} {f : α → β} {r : β} (h : rv_lt e f = r) : ∃ x, e = x ∧ f x = r := ⟨e, rfl, h⟩
theorem rv_b_e {α β : Type} {o : Option α} {f : α → Option β} {r : β} (h : o.bind f = some r) : ∃ x, o = some x ∧ f x = some r := by
  cases o with
  | none => cases h
  | some x => exact ⟨x, rfl, h⟩
theorem rv_bp_e {α β : Type} {o : Option (α × rvS)} {f : α → rvS → Option β} {r : β} (h : rv_bp o f = some r) : ∃ x S, o = some (x, S) ∧ f x S = some r := by
  cases o with
  | none => cases h
  | some q => exact ⟨q.1, q.2, rfl, h⟩
theorem rv_if_e {α : Type} {c : Prop} [Decidable c] {a b : α} {r : α} (h : (if c then a else b) = r) : (c ∧ a = r) ∨ (¬ c ∧ b = r) := by
  by_cases hc : c
  · exact Or.inl ⟨hc, by rw [if_pos hc] at h; exact h⟩
  · exact Or.inr ⟨hc, by rw [if_neg hc] at h; exact h⟩
def rv_isB (S : rvS) (a : Nat) (q : Nat × Nat) : Bool := decide (64 ≤ a) && S.1[a - 64]? == some q
theorem rv_isB_iff {S : rvS} {a : Nat} {q : Nat × Nat} : rv_isB S a q = true ↔ rv_is S a q := by
  simp [rv_isB, rv_is]
def rv_ck (S : rvS) (c a : Nat) : Option Unit := if rv_isB S a (c, rv_N c) = true then some () else none
def rv_gI (S : rvS) (c a k : Nat) : Option Int32 := if rv_isB S a (c, rv_N c) = true then some (S.2.1 a k) else none
def rv_gL (S : rvS) (c a k : Nat) : Option Int64 := if rv_isB S a (c, rv_N c) = true then some (S.2.2.1 a k) else none
def rv_gR (S : rvS) (c a k : Nat) : Option Nat := if rv_isB S a (c, rv_N c) = true then S.2.2.2 a k else none
def rv_pI (S : rvS) (c a k : Nat) (v : Int32) : Option rvS := if rv_isB S a (c, rv_N c) = true then some (rv_sI S a k v) else none
def rv_pL (S : rvS) (c a k : Nat) (v : Int64) : Option rvS := if rv_isB S a (c, rv_N c) = true then some (rv_sL S a k v) else none
def rv_pR (S : rvS) (c a k : Nat) (v : Nat) : Option rvS := if rv_isB S a (c, rv_N c) = true then (if v < 64 + S.1.length then some (rv_sR S a k (some v)) else none) else none
/-- the length of a row of a sort -/
def rv_ln (S : rvS) (t a : Nat) : Option Nat := if 64 ≤ a then (S.1[a - 64]?).bind (fun q => if q.1 = 50 + t then some q.2 else none) else none
def rv_ix (n : Nat) (i : Int32) : Option Nat := if i < 0 ∨ n ≤ i.toNatClampNeg then none else some i.toNatClampNeg
def rv_aI (S : rvS) (t a : Nat) (i : Int32) : Option Int32 := (rv_ln S t a).bind fun n => (rv_ix n i).bind fun j => some (S.2.1 a j)
def rv_aL (S : rvS) (a : Nat) (i : Int32) : Option Int64 := (rv_ln S 1 a).bind fun n => (rv_ix n i).bind fun j => some (S.2.2.1 a j)
def rv_aR (S : rvS) (t a : Nat) (i : Int32) : Option Nat := (rv_ln S t a).bind fun n => (rv_ix n i).bind fun j => S.2.2.2 a j
def rv_uI (S : rvS) (a : Nat) (i v : Int32) : Option rvS := (rv_ln S 0 a).bind fun n => (rv_ix n i).bind fun j => some (rv_sI S a j v)
def rv_uB (S : rvS) (a : Nat) (i v : Int32) : Option rvS := (rv_ln S 2 a).bind fun n => (rv_ix n i).bind fun j => some (rv_sI S a j (vp_nar .byte v))
def rv_uZ (S : rvS) (a : Nat) (i v : Int32) : Option rvS := (rv_ln S 3 a).bind fun n => (rv_ix n i).bind fun j => some (rv_sI S a j (vp_nar .boolean v))
def rv_uL (S : rvS) (a : Nat) (i : Int32) (v : Int64) : Option rvS := (rv_ln S 1 a).bind fun n => (rv_ix n i).bind fun j => some (rv_sL S a j v)
def rv_uW (S : rvS) (a : Nat) (i : Int32) (v : Nat) : Option rvS := (rv_ln S 4 a).bind fun n => (rv_ix n i).bind fun j => if v < 23 then some (rv_sR S a j (some v)) else none
def rv_uQ (S : rvS) (t c a : Nat) (i : Int32) (v : Nat) : Option rvS := (rv_ln S t a).bind fun n => (rv_ix n i).bind fun j => if rv_isB S v (c, rv_N c) = true then some (rv_sR S a j (some v)) else none
def rv_wd (i : Nat) : Option Unit := if i < 23 then some () else none
def rv_bo (v : Int32) : Option Int32 := if v = 0 ∨ v = 1 then some v else none
def rv_nz (v : Int32) : Option Unit := if v = 0 then none else some ()
theorem rv_ln_e {S : rvS} {t a n : Nat} (h : rv_ln S t a = some n) : rv_is S a (50 + t, n) := by
  unfold rv_ln at h
  split at h
  · rename_i h0
    obtain ⟨q, h1, h2⟩ := rv_b_e h
    split at h2
    · rename_i h3
      cases h2
      exact ⟨h0, by rw [h1, ← h3]⟩
    · cases h2
  · cases h
theorem rv_ix_e {n : Nat} {i : Int32} {j : Nat} (h : rv_ix n i = some j) : vp_in i n ∧ j = i.toNatClampNeg := by
  unfold rv_ix at h
  split at h
  · cases h
  · rename_i h0
    exact ⟨h0, (Option.some.inj h).symm⟩
theorem rv_ck_e {S : rvS} {c a : Nat} {u : Unit} (h : rv_ck S c a = some u) : rv_is S a (c, rv_N c) := by
  unfold rv_ck at h
  split at h
  · rename_i h0; exact rv_isB_iff.mp h0
  · cases h
theorem rv_wd_e {i : Nat} {u : Unit} (h : rv_wd i = some u) : i < 23 := by
  unfold rv_wd at h
  split at h
  · assumption
  · cases h
theorem rv_bo_e {v w : Int32} (h : rv_bo v = some w) : v = w ∧ narrow .boolean (.int w) = .int w := by
  unfold rv_bo at h
  split at h
  · rename_i h0
    cases h
    exact ⟨rfl, by rcases h0 with rfl | rfl <;> rfl⟩
  · cases h
theorem rv_nz_e {v : Int32} {u : Unit} (h : rv_nz v = some u) : ¬ v = 0 := by
  unfold rv_nz at h
  split at h
  · cases h
  · assumption
section RVP
variable {X : rvM} {d pc : Nat} {lv : List (Nat × Value)} {st : List Value} {S S' : rvS} {r : Option Value}
theorem re_sub (ks : List Nat) {lv1 : List (Nat × Value)} (he : lv_pick lv ks = lv1) (k : rv_Ev X d pc lv1 st S r S') : rv_Ev X d pc lv st S r S' := by
  subst he
  refine rv_st1 (fun p l e R s m args below meth c E Q C ad H locs ls n1 n2 hW hS hl kk => kk ls (lv_sub hl ks ?_)) k
  simp [lv_pick, rv_lv, List.map_filterMap]
theorem re_nI {e z : Int32} (h : e = z) (k : rv_Ev X d pc lv (.int z :: st) S r S') : rv_Ev X d pc lv (.int e :: st) S r S' := h ▸ k
theorem re_nL {e z : Int64} (h : e = z) (k : rv_Ev X d pc lv (.long z :: st) S r S') : rv_Ev X d pc lv (.long e :: st) S r S' := h ▸ k
theorem re_nR {e z : Nat} (h : e = z) (k : rv_Ev X d pc lv (.ref z :: st) S r S') : rv_Ev X d pc lv (.ref e :: st) S r S' := h ▸ k
theorem re_nS {e z : rvS} (h : e = z) (k : rv_Ev X d pc lv st z r S') : rv_Ev X d pc lv st e r S' := h ▸ k
theorem re_gI {ix a cl k : Nat} {x : Int32} (h : rv_gI S cl a k = some x) (hl : rv_LF X.1 ix cl k) (ht : rv_tk (rv_ty cl k) = 0) (hdg : decode X.2.1 pc = .ok (.getfield ix, 3)) (kk : rv_Ev X d (pc + 3) lv (.int x :: st) S r S') : rv_Ev X d pc lv (.ref a :: st) S r S' := by
  unfold rv_gI at h
  split at h
  · rename_i h0
    cases h
    exact re_getI (rv_isB_iff.mp h0) hl ht hdg kk
  · cases h
theorem re_gL {ix a cl k : Nat} {x : Int64} (h : rv_gL S cl a k = some x) (hl : rv_LF X.1 ix cl k) (ht : rv_tk (rv_ty cl k) = 1) (hdg : decode X.2.1 pc = .ok (.getfield ix, 3)) (kk : rv_Ev X d (pc + 3) lv (.long x :: st) S r S') : rv_Ev X d pc lv (.ref a :: st) S r S' := by
  unfold rv_gL at h
  split at h
  · rename_i h0
    cases h
    exact re_getL (rv_isB_iff.mp h0) hl ht hdg kk
  · cases h
theorem re_gR {ix a cl k x : Nat} (h : rv_gR S cl a k = some x) (hl : rv_LF X.1 ix cl k) (ht : rv_tk (rv_ty cl k) = 2) (hdg : decode X.2.1 pc = .ok (.getfield ix, 3)) (kk : rv_Ev X d (pc + 3) lv (.ref x :: st) S r S') : rv_Ev X d pc lv (.ref a :: st) S r S' := by
  unfold rv_gR at h
  split at h
  · rename_i h0
    exact re_getR (rv_isB_iff.mp h0) hl ht h hdg kk
  · cases h
theorem re_pI {ix a cl k : Nat} {v : Int32} {S1 : rvS} (h : rv_pI S cl a k v = some S1) (hl : rv_LF X.1 ix cl k) (ht : rv_tk (rv_ty cl k) = 0) (hfin : (rv_T cl k).2.2.2 = false) (hn : narrow (rv_ty cl k) (.int v) = .int v) (hfit : fits (rv_ty cl k) (.int v) = true) (hdg : decode X.2.1 pc = .ok (.putfield ix, 3)) (kk : rv_Ev X d (pc + 3) lv st S1 r S') : rv_Ev X d pc lv (.int v :: .ref a :: st) S r S' := by
  unfold rv_pI at h
  split at h
  · rename_i h0
    cases h
    exact re_putI (rv_isB_iff.mp h0) hl ht hfin hn hfit hdg kk
  · cases h
theorem re_pL {ix a cl k : Nat} {v : Int64} {S1 : rvS} (h : rv_pL S cl a k v = some S1) (hl : rv_LF X.1 ix cl k) (ht : rv_tk (rv_ty cl k) = 1) (hfin : (rv_T cl k).2.2.2 = false) (hn : narrow (rv_ty cl k) (.long v) = .long v) (hfit : fits (rv_ty cl k) (.long v) = true) (hdg : decode X.2.1 pc = .ok (.putfield ix, 3)) (kk : rv_Ev X d (pc + 3) lv st S1 r S') : rv_Ev X d pc lv (.long v :: .ref a :: st) S r S' := by
  unfold rv_pL at h
  split at h
  · rename_i h0
    cases h
    exact re_putL (rv_isB_iff.mp h0) hl ht hfin hn hfit hdg kk
  · cases h
theorem re_pR {ix a cl k v : Nat} {S1 : rvS} (h : rv_pR S cl a k v = some S1) (hl : rv_LF X.1 ix cl k) (ht : rv_tk (rv_ty cl k) = 2) (hfin : (rv_T cl k).2.2.2 = false ∨ ((rv_T cl k).2.2.2 = true ∧ X.2.2.2.2.1 = true ∧ X.1 = rv_R cl ∧ Cond.fieldLink X.1 ix (rv_R cl) (rv_T cl k).2.1 (rv_T cl k).2.2.1 ∈ rv_wN)) (hdg : decode X.2.1 pc = .ok (.putfield ix, 3)) (kk : rv_Ev X d (pc + 3) lv st S1 r S') : rv_Ev X d pc lv (.ref v :: .ref a :: st) S r S' := by
  unfold rv_pR at h
  split at h
  · rename_i h0
    split at h
    · rename_i h1
      cases h
      exact re_putR (rv_isB_iff.mp h0) hl ht hfin h1 hdg kk
    · cases h
  · cases h
theorem rv_two {α : Type} {S : rvS} {t a : Nat} {i : Int32} {f : Nat → Option α} {x : α} (h : ((rv_ln S t a).bind fun n => (rv_ix n i).bind f) = some x) : ∃ n, rv_is S a (50 + t, n) ∧ vp_in i n ∧ f i.toNatClampNeg = some x := by
  obtain ⟨n, h1, h2⟩ := rv_b_e h
  obtain ⟨j, h3, h4⟩ := rv_b_e h2
  obtain ⟨h5, h6⟩ := rv_ix_e h3
  subst h6
  exact ⟨n, rv_ln_e h1, h5, h4⟩
theorem re_aI {a : Nat} {i x : Int32} (h : rv_aI S 0 a i = some x) (hdg : decode X.2.1 pc = .ok (.iaload, 1)) (kk : rv_Ev X d (pc + 1) lv (.int x :: st) S r S') : rv_Ev X d pc lv (.int i :: .ref a :: st) S r S' := by
  obtain ⟨n, h1, h2, h3⟩ := rv_two h
  cases h3
  exact re_iald h1 h2 hdg kk
theorem re_aB {a : Nat} {i x : Int32} (h : rv_aI S 2 a i = some x) (hdg : decode X.2.1 pc = .ok (.baload, 1)) (kk : rv_Ev X d (pc + 1) lv (.int x :: st) S r S') : rv_Ev X d pc lv (.int i :: .ref a :: st) S r S' := by
  obtain ⟨n, h1, h2, h3⟩ := rv_two h
  cases h3
  exact re_bald h1 h2 hdg kk
theorem re_aZ {a : Nat} {i x : Int32} (h : rv_aI S 3 a i = some x) (hdg : decode X.2.1 pc = .ok (.baload, 1)) (kk : rv_Ev X d (pc + 1) lv (.int x :: st) S r S') : rv_Ev X d pc lv (.int i :: .ref a :: st) S r S' := by
  obtain ⟨n, h1, h2, h3⟩ := rv_two h
  cases h3
  exact re_zald h1 h2 hdg kk
theorem re_aL {a : Nat} {i : Int32} {x : Int64} (h : rv_aL S a i = some x) (hdg : decode X.2.1 pc = .ok (.laload, 1)) (kk : rv_Ev X d (pc + 1) lv (.long x :: st) S r S') : rv_Ev X d pc lv (.int i :: .ref a :: st) S r S' := by
  obtain ⟨n, h1, h2, h3⟩ := rv_two h
  cases h3
  exact re_lald h1 h2 hdg kk
theorem re_aR {a t x : Nat} {i : Int32} (ht : t < 3) (h : rv_aR S (4 + t) a i = some x) (hdg : decode X.2.1 pc = .ok (.aaload, 1)) (kk : rv_Ev X d (pc + 1) lv (.ref x :: st) S r S') : rv_Ev X d pc lv (.int i :: .ref a :: st) S r S' := by
  obtain ⟨n, h1, h2, h3⟩ := rv_two h
  rw [show 50 + (4 + t) = 54 + t by omega] at h1
  exact re_qald ht h1 h2 h3 hdg kk
theorem re_uI {a : Nat} {i v : Int32} {S1 : rvS} (h : rv_uI S a i v = some S1) (hdg : decode X.2.1 pc = .ok (.iastore, 1)) (kk : rv_Ev X d (pc + 1) lv st S1 r S') : rv_Ev X d pc lv (.int v :: .int i :: .ref a :: st) S r S' := by
  obtain ⟨n, h1, h2, h3⟩ := rv_two h
  cases h3
  exact re_iast h1 h2 hdg kk
theorem re_uB {a : Nat} {i v : Int32} {S1 : rvS} (h : rv_uB S a i v = some S1) (hdg : decode X.2.1 pc = .ok (.bastore, 1)) (kk : rv_Ev X d (pc + 1) lv st S1 r S') : rv_Ev X d pc lv (.int v :: .int i :: .ref a :: st) S r S' := by
  obtain ⟨n, h1, h2, h3⟩ := rv_two h
  cases h3
  exact re_bast h1 h2 hdg kk
theorem re_uZ {a : Nat} {i v : Int32} {S1 : rvS} (h : rv_uZ S a i v = some S1) (hdg : decode X.2.1 pc = .ok (.bastore, 1)) (kk : rv_Ev X d (pc + 1) lv st S1 r S') : rv_Ev X d pc lv (.int v :: .int i :: .ref a :: st) S r S' := by
  obtain ⟨n, h1, h2, h3⟩ := rv_two h
  cases h3
  exact re_zast h1 h2 hdg kk
theorem re_uL {a : Nat} {i : Int32} {v : Int64} {S1 : rvS} (h : rv_uL S a i v = some S1) (hdg : decode X.2.1 pc = .ok (.lastore, 1)) (kk : rv_Ev X d (pc + 1) lv st S1 r S') : rv_Ev X d pc lv (.long v :: .int i :: .ref a :: st) S r S' := by
  obtain ⟨n, h1, h2, h3⟩ := rv_two h
  cases h3
  exact re_last h1 h2 hdg kk
theorem re_uW {a v : Nat} {i : Int32} {S1 : rvS} (h : rv_uW S a i v = some S1) (hdg : decode X.2.1 pc = .ok (.aastore, 1)) (kk : rv_Ev X d (pc + 1) lv st S1 r S') : rv_Ev X d pc lv (.ref v :: .int i :: .ref a :: st) S r S' := by
  obtain ⟨n, h1, h2, h3⟩ := rv_two h
  split at h3
  · rename_i h4
    cases h3
    exact re_wast h1 h4 h2 hdg kk
  · cases h3
theorem re_uQ {a v t c : Nat} {i : Int32} {S1 : rvS} (ht : t = 1 ∧ c = 8 ∨ t = 2 ∧ c = 5) (h : rv_uQ S (4 + t) c a i v = some S1) (hdg : decode X.2.1 pc = .ok (.aastore, 1)) (kk : rv_Ev X d (pc + 1) lv st S1 r S') : rv_Ev X d pc lv (.ref v :: .int i :: .ref a :: st) S r S' := by
  obtain ⟨n, h1, h2, h3⟩ := rv_two h
  rw [show 50 + (4 + t) = 54 + t by omega] at h1
  split at h3
  · rename_i h4
    cases h3
    exact re_qast ht h1 (rv_isB_iff.mp h4) h2 hdg kk
  · cases h3
/-- Object's own constructor -/
theorem re_obj {ix a : Nat} (hl : Cond.methodLink X.1 ix Lib.objectInit ∈ rv_wN) (hi : Cond.instanceMethod Lib.objectInit ∈ rv_wN) (hc : Cond.code Lib.objectInit ⟨#[0xb1]⟩ 1 none ∈ rv_wN) (hw : (st.map fun v => v.category).sum ≤ 40) (hd : 0 < d) (hdg : decode X.2.1 pc = .ok (.invokespecial ix, 3)) (kk : rv_Ev X d (pc + 3) lv st S r S') : rv_Ev X d pc lv (.ref a :: st) S r S' :=
  rv_st1 (fun p l e R s m args below meth c E Q C ad H locs ls n1 n2 hW hS hL kk => by
    have r1 : d ≤ R.frames := C.2.2.2.2.2.2.2.2.2.1
    have r2 : 64 * d ≤ R.locals := C.2.2.2.2.2.2.2.2.2.2.1
    have hcat : ((st.map (rv_cv ad)).map fun v => v.category) = st.map fun v => v.category := by simp [Function.comp_def, rv_cv_cat]
    exact W.objInit C.1 C.2.1 C.2.2.2.2.1 (C.2.2.2.2.2.1 _ hl) (C.2.2.2.2.2.1 _ hi) (C.2.2.2.2.2.1 _ hc) rfl (by rw [C.2.2.2.1]; exact hL.1) rfl hdg (by omega) (by show 2 * 0 + _ + 12 ≤ _; rw [hcat]; omega) (kk ls hL)) kk
theorem rv_Met.sh {y : MethodName} {Y : rvM} {d0 : Nat} {As : List Value} {v : Option Value} {S1 : rvS} (hM : rv_Met y Y d0 As S v S1) (hal : Y.2.2.2.2.2.1 = false) : rv_same S S1 := hM.1.1 hal
end RVP
