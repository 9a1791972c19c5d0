/-! CELLS THAT ARE MADE; statics; returns; calls -/
def rv_okv (S : rvS) (v : Value) : Prop := match v with
  | .ref a => a < 64 + S.1.length
  | _ => True
theorem rv_is.ok {S : rvS} {a : Nat} {q : Nat × Nat} (h : rv_is S a q) : a < 64 + S.1.length := by
  have := (List.getElem?_eq_some_iff.mp h.2).1
  have := h.1
  omega
theorem rv_cv_ok {S : rvS} {ad ad' : Nat → Nat} (h : ∀ i, i < 64 + S.1.length → ad' i = ad i) {v : Value} (hv : rv_okv S v) : rv_cv ad' v = rv_cv ad v := by
  cases v <;> first | rfl | exact congrArg Value.ref (h _ hv)
theorem rv_lv_ok {S : rvS} {ad ad' : Nat → Nat} (h : ∀ i, i < 64 + S.1.length → ad' i = ad i) {lv : List (Nat × Value)} (hv : ∀ q ∈ lv, rv_okv S q.2) : rv_lv ad' lv = rv_lv ad lv := List.map_congr_left fun q hq => by rw [rv_cv_ok h (hv q hq)]
theorem rv_st_ok {S : rvS} {ad ad' : Nat → Nat} (h : ∀ i, i < 64 + S.1.length → ad' i = ad i) {st : List Value} (hv : ∀ v ∈ st, rv_okv S v) : st.map (rv_cv ad') = st.map (rv_cv ad) := List.map_congr_left fun q hq => rv_cv_ok h (hv q hq)
def rv_new (S : rvS) (q : Nat × Nat) : rvS := (S.1 ++ [q], fun x y => if x = 64 + S.1.length then 0 else S.2.1 x y, fun x y => if x = 64 + S.1.length then 0 else S.2.2.1 x y, fun x y => if x = 64 + S.1.length then none else S.2.2.2 x y)
theorem rv_cell_ad {aC : Nat → ClassId} {ad ad' : Nat → Nat} {S S1 : rvS} {b : Nat} (h1 : S1.2.1 b = S.2.1 b) (h2 : S1.2.2.1 b = S.2.2.1 b) (h3 : S1.2.2.2 b = S.2.2.2 b) (hr : ∀ y r, S.2.2.2 b y = some r → ad' r = ad r) (q : Nat × Nat) : rv_cell aC ad' S1 b q = rv_cell aC ad S b q := by
  have hm : ∀ y, (S.2.2.2 b y).map ad' = (S.2.2.2 b y).map ad := fun y => by
    cases hz : S.2.2.2 b y with
    | none => rfl
    | some r => exact congrArg some (hr y r hz)
  unfold rv_cell rv_fs
  rw [h1, h2, h3]
  have e1 : ∀ k, rv_fv ad' (rv_ty q.1 k) (S.2.1 b k) (S.2.2.1 b k) (S.2.2.2 b k) = rv_fv ad (rv_ty q.1 k) (S.2.1 b k) (S.2.2.1 b k) (S.2.2.2 b k) := fun k => by
    unfold rv_fv
    rw [hm k]
  have e2 : rv_arr ad' (q.1 - 50) q.2 (S.2.1 b) (S.2.2.1 b) (S.2.2.2 b) = rv_arr ad (q.1 - 50) q.2 (S.2.1 b) (S.2.2.1 b) (S.2.2.2 b) := by
    unfold rv_arr
    simp only [hm]
  simp only [e1, e2]
theorem rv_W_new {aC : Nat → ClassId} {ad ad' : Nat → Nat} {S : rvS} {q : Nat × Nat} (h : ∀ i, i < 64 + S.1.length → ad' i = ad i) (hr : ∀ x y b, S.2.2.2 x y = some b → b < 64 + S.1.length) : rv_W aC ad' (rv_new S q) = rv_W aC ad S ++ [(ad' (64 + S.1.length), rv_cell aC ad' (rv_new S q) (64 + S.1.length) q)] := by
  apply List.ext_getElem?
  intro i
  have hl : (rv_W aC ad S).length = S.1.length := by simp [rv_W]
  by_cases hi : i < S.1.length
  · rw [List.getElem?_append_left (by omega)]
    have hne : 64 + i ≠ 64 + S.1.length := by omega
    simp only [rv_W, List.getElem?_mapIdx, rv_new, List.getElem?_append_left hi]
    cases hq : S.1[i]? with
    | none => rfl
    | some q0 =>
      simp only [Option.map_some]
      congr 2
      · exact h _ (by omega)
      · exact rv_cell_ad (by funext y; simp [hne, Nat.ne_of_lt hi]) (by funext y; simp [hne, Nat.ne_of_lt hi]) (by funext y; simp [hne, Nat.ne_of_lt hi]) (fun y r z => h r (hr _ y r z)) q0
  · rw [List.getElem?_append_right (by omega), hl]
    simp only [rv_W, List.getElem?_mapIdx, rv_new]
    rw [List.getElem?_append_right (by omega)]
    by_cases h0 : i = S.1.length
    · subst h0
      simp
    · have : i - S.1.length ≠ 0 := by omega
      simp [List.getElem?_singleton, this]
def rv_at (ad : Nat → Nat) (i q : Nat) : Nat → Nat := fun j => if j = i then q else ad j
theorem rv_Wd.new {E : rvE} {ad : Nat → Nat} {S : rvS} {q : Nat × Nat} {a : Nat} {e : va_E} {H H1 : Heap} (hW : rv_Wd E ad S H) (he : rv_cell E.2.1 (rv_at ad (64 + S.1.length) a) (rv_new S q) (64 + S.1.length) q = e) (hP : va_P E.1 rvCl (rv_W E.2.1 ad S ++ [(a, e)]) H1) (hD : va_D (rv_A E) (rv_W E.2.1 ad S ++ [(a, e)])) : rv_Wd E (rv_at ad (64 + S.1.length) a) (rv_new S q) H1 := by
  have h1 : ∀ i, i < 64 + S.1.length → rv_at ad (64 + S.1.length) a i = ad i := fun i hi => if_neg (by omega)
  have h2 : rv_at ad (64 + S.1.length) a (64 + S.1.length) = a := if_pos rfl
  have hw := rv_W_new (aC := E.2.1) (q := q) h1 hW.2.2.2
  rw [h2, he] at hw
  rw [← hw] at hP hD
  refine ⟨hP, hD, fun i hi => (h1 i (by omega)).trans (hW.2.2.1 i hi), fun x y b z => ?_⟩
  have hl : (rv_new S q).1.length = S.1.length + 1 := by simp [rv_new]
  rw [hl]
  simp only [rv_new] at z
  split at z
  · cases z
  · have := hW.2.2.2 x y b z
    omega
theorem rv_dflt0 : ∀ c, c < 12 → ∀ k, k < rv_N c → defaultValue (rv_ty c k) = rv_fv (fun x => x) (rv_ty c k) 0 0 none := by
  intro c hc
  exact rv_12 (P := fun c => ∀ k, k < rv_N c → defaultValue (rv_ty c k) = rv_fv (fun x => x) (rv_ty c k) 0 0 none) (by decide +kernel) (by decide +kernel) (by decide +kernel) (by decide +kernel) (by decide +kernel) (by decide +kernel) (by decide +kernel) (by decide +kernel) (by decide +kernel) (by decide +kernel) (by decide +kernel) (by decide +kernel) hc
theorem rv_dflt {c k : Nat} (hc : c < 12) (hk : k < rv_N c) (ad : Nat → Nat) : defaultValue (rv_ty c k) = rv_fv ad (rv_ty c k) 0 0 none := by
  rw [rv_dflt0 c hc k hk]
  unfold rv_fv
  rfl
theorem rv_sz_new {S : rvS} {q : Nat × Nat} : rv_sz (rv_new S q) = rv_sz S + q.2 := by
  have h : ¬ 60 = 64 + S.1.length := by omega
  simp only [rv_sz, rv_new, h, if_false, List.map_append, List.sum_append, List.map_cons, List.map_nil, List.sum_cons, List.sum_nil]
  omega
theorem rv_len_new2 {S : rvS} {q : Nat × Nat} : rv_len (rv_new S q) = rv_len S + 1 := by
  have h : ¬ 60 = 64 + S.1.length := by omega
  simp only [rv_len, rv_new, h, if_false, List.length_append, List.length_cons, List.length_nil]
  omega
theorem rv_len_new {S : rvS} {q : Nat × Nat} : (rv_new S q).1.length = S.1.length + 1 := by simp [rv_new]
theorem rv_is.new {S : rvS} {q : Nat × Nat} : rv_is (rv_new S q) (64 + S.1.length) q := ⟨by omega, by simp [rv_new]⟩
theorem rv_is.old {S : rvS} {q q0 : Nat × Nat} {a : Nat} (h : rv_is S a q0) : rv_is (rv_new S q) a q0 := ⟨h.1, by
  have hl := (List.getElem?_eq_some_iff.mp h.2).1
  show (S.1 ++ [q])[a - 64]? = some q0
  rw [List.getElem?_append_left hl]
  exact h.2⟩
section RVN
variable {X : rvM} {d pc : Nat} {lv : List (Nat × Value)} {st : List Value} {S S' : rvS} {r : Option Value}
/-- a step that makes one cell -/
theorem rv_st3 {pc1 : Nat} {st0 : List Value} {q : Nat × Nat} (hal : X.2.2.2.2.2.1 = true) (hlv : ∀ q ∈ lv, rv_okv S q.2) (hst : ∀ v ∈ st, rv_okv S v) (h : ∀ (p : Program) (l : Launch) (e : Env) (R : Room) (s : State) (m : MethodId) (args : Array Value) (below : List Frame) (meth : Method) (c : Code) (E : rvE) (Q : State → Prop), rv_Cx X d p l R s m args meth c E →
    ∀ (ad : Nat → Nat) (H : Heap) (locs : List Loc) (ls : Array Slot) (n1 n2 : Nat), rv_Wd E ad S H → va_S (rv_A E) s.heap H locs → n1 + 1 ≤ R.cells → n2 + q.2 ≤ R.slots →
    (∀ (a : Nat) (H' : Heap) (locs' : List Loc), rv_Wd E (rv_at ad (64 + S.1.length) a) (rv_new S q) H' → va_S (rv_A E) s.heap H' locs' → W p l e R s m args below meth c H' locs' (n1 + 1) (n2 + q.2) Q (F0 m pc1 ls (.ref a :: st.map (rv_cv ad)))) →
    W p l e R s m args below meth c H locs n1 n2 Q (F0 m pc ls (st0.map (rv_cv ad)))) (k : rv_Ev X d pc1 lv (.ref (64 + S.1.length) :: st) (rv_new S q) r S') : rv_Ev X d pc lv st0 S r S' := by
  refine rv_Ev.go ⟨fun z => absurd (hal.symm.trans z) (by decide), by rw [rv_len_new]; omega, by rw [rv_len_new2]; omega, by rw [rv_sz_new]; omega⟩ (fun p l e R s m args below meth c E Q C ad H locs ls n1 n2 hW hS hl b1 b2 kk => ?_) k
  rw [rv_len_new2] at b1
  rw [rv_sz_new] at b2
  refine h p l e R s m args below meth c E Q C ad H locs ls n1 n2 hW hS (by omega) (by omega) (fun a H' locs' hW' hS' => ?_)
  have h1 : ∀ i, i < 64 + S.1.length → rv_at ad (64 + S.1.length) a i = ad i := fun i hi => if_neg (by omega)
  have h2 : rv_at ad (64 + S.1.length) a (64 + S.1.length) = a := if_pos rfl
  have := kk (rv_at ad (64 + S.1.length) a) H' locs' ls (n1 + 1) (n2 + q.2) h1 (fun z => by rw [rv_len_new] at z; omega) hW' hS' (by rw [rv_lv_ok h1 hlv]; exact hl) (by rw [rv_len_new2]; omega) (by rw [rv_sz_new]; omega)
  simp only [List.map_cons, rv_cv, h2, rv_st_ok h1 hst] at this
  exact this
theorem re_new {ix c : Nat} (hal : X.2.2.2.2.2.1 = true) (hlv : ∀ q ∈ lv, rv_okv S q.2) (hst : ∀ v ∈ st, rv_okv S v) (h12 : c < 12) (hcl : Cond.classLink X.1 ix (rv_R c) ∈ rv_wN) (hin : Cond.instantiable (rv_R c) (rv_N c) ∈ rv_wN) (hini : Cond.initialized (rv_R c) ∈ rv_wN) (hdg : decode X.2.1 pc = .ok (.new ix, 3)) (k : rv_Ev X d (pc + 3) lv (.ref (64 + S.1.length) :: st) (rv_new S (c, rv_N c)) r S') : rv_Ev X d pc lv st S r S' :=
  rv_st3 hal hlv hst (fun p l e R s m args below meth c0 E Q C ad H locs ls n1 n2 hW hS b1 b2 kk => va_new (fs := (List.range (rv_N c)).map (fun k => rv_fv ad (rv_ty c k) 0 0 none)) C.1 C.2.1 C.2.2.2.2.2.1 (rv_lays h12) (rv_ty c) (rv_ty_ok h12) C.2.2.2.2.1 (C.2.2.2.2.2.1 _ hcl) (C.2.2.2.2.2.1 _ hin) (C.2.2.2.2.2.1 _ hini) C.2.2.2.2.2.2.2.2.1.1 hW.1 hW.2.1 hS (fun q hq => Nat.le_trans C.2.2.2.2.2.2.2.2.1.2.2.2.1 hq) (rv_cl h12) (fun j hj => by rw [rv_dflt h12 hj ad]; simp [vp_V, hj]) b1 b2 hdg (fun a H1 hP hD hS1 => kk a H1 locs (hW.new (by rw [rv_cellO h12]; congr 2; unfold rv_fs; apply List.map_congr_left; intro j _; simp [rv_new, rv_fv]) hP hD) hS1)) k
theorem rv_aC {E : rvE} {s : State} {t : Nat} (ht : t < 7) (h : rv_Env E s) {cA : ClassId} (hR : va_RA s cA (rv_aty t)) : cA = E.2.1 t := by
  have h1 := (h.1.2 t _ (rv_tys_get ht)).2
  generalize rv_aty t = ty at h1 hR
  cases ty with
  | object C =>
    obtain ⟨_, _, _, _, _, h2⟩ := h1
    obtain ⟨_, _, _, _, _, h3⟩ := hR
    exact Option.some.inj (h3.symm.trans h2)
  | _ => exact Option.some.inj (Eq.trans (Eq.symm hR) h1)
theorem rv_arr0 (ad : Nat → Nat) {t n : Nat} (ht : t < 4) (cA : ClassId) : vp_cell cA (rv_arr ad t n (fun _ => 0) (fun _ => 0) (fun _ => none)) = arrV cA n (fun _ => defaultValue (rv_aty t)) := by
  rcases (show t = 0 ∨ t = 1 ∨ t = 2 ∨ t = 3 by omega) with rfl | rfl | rfl | rfl <;> rfl
theorem rv_newcell {aC : Nat → ClassId} {ad : Nat → Nat} {t n : Nat} : rv_cell aC ad (rv_new S (50 + t, n)) (64 + S.1.length) (50 + t, n) = .inl (aC t, rv_arr ad t n (fun _ => 0) (fun _ => 0) (fun _ => none)) := by
  rw [rv_cellA]
  simp [rv_new]
theorem re_newa {at0 : ArrayType} {t N : Nat} {n : Int32} (hal : X.2.2.2.2.2.1 = true) (hlv : ∀ q ∈ lv, rv_okv S q.2) (hst : ∀ v ∈ st, rv_okv S v) (ht : t < 4) (hty : newarray.typeOf at0 = rv_aty t) (hw : Cond.arrayClass (newarray.typeOf at0) ∈ rv_wN) (hn : ¬ n < 0) (hN : n.toNatClampNeg = N) (hb : N * componentBytes (rv_aty t) ≤ 536870912) (hdg : decode X.2.1 pc = .ok (.newarray at0, 2)) (k : rv_Ev X d (pc + 2) lv (.ref (64 + S.1.length) :: st) (rv_new S (50 + t, N)) r S') : rv_Ev X d pc lv (.int n :: st) S r S' :=
  rv_st3 hal hlv hst (fun p l e R s m args below meth c0 E Q C ad H locs ls n1 n2 hW hS b1 b2 kk => va_newa (N' := N) (a0 := rv_arr ad t N (fun _ => 0) (fun _ => 0) (fun _ => none)) C.1 C.2.1 (C.2.2.2.2.2.1 _ hw) hty C.2.2.2.2.2.2.2.2.1.1 hW.1 hW.2.1 hS (fun q hq => Nat.le_trans C.2.2.2.2.2.2.2.2.1.2.2.2.1 hq) (rv_arr0 ad ht) hn hN hb b1 b2 hdg (fun a cA H1 hK hP hD hS1 => by
    have hc : cA = E.2.1 t := rv_aC (by omega) C.2.2.2.2.2.2.2.2.1 (hK.2 7 (cA, rv_aty t) (by simp [rv_tys])).2
    subst hc
    refine kk a H1 locs (hW.new ?_ hP hD) hS1
    rw [rv_newcell]
    rcases (show t = 0 ∨ t = 1 ∨ t = 2 ∨ t = 3 by omega) with rfl | rfl | rfl | rfl <;> rfl)) k
theorem rv_over {E : rvE} {s : State} {t : Nat} {Cn : String} (h : rv_Env E s) (ht : t < 3) (hty : rv_aty (4 + t) = .object Cn) : va_AO Cn s := by
  rcases (show t = 0 ∨ t = 1 ∨ t = 2 by omega) with rfl | rfl | rfl
  · cases (show FieldType.object RX11 = .object Cn from hty); exact h.2.2.2.2.1
  · cases (show FieldType.object RX9 = .object Cn from hty); exact h.2.2.2.2.2.1
  · cases (show FieldType.object RX6 = .object Cn from hty); exact h.2.2.2.2.2.2.1
theorem re_newq {ix t N : Nat} {n : Int32} {Cn : String} (hal : X.2.2.2.2.2.1 = true) (hlv : ∀ q ∈ lv, rv_okv S q.2) (hst : ∀ v ∈ st, rv_okv S v) (ht : t < 3) (hty : rv_aty (4 + t) = .object Cn) (hcl : Cond.classLink X.1 ix Cn ∈ rv_wN) (hn : ¬ n < 0) (hN : n.toNatClampNeg = N) (hb : N * 4 ≤ 536870912) (hdg : decode X.2.1 pc = .ok (.anewarray ix, 3)) (k : rv_Ev X d (pc + 3) lv (.ref (64 + S.1.length) :: st) (rv_new S (54 + t, N)) r S') : rv_Ev X d pc lv (.int n :: st) S r S' :=
  rv_st3 hal hlv hst (fun p l e R s m args below meth c0 E Q C ad H locs ls n1 n2 hW hS b1 b2 kk => va_newq (N' := N) C.1 C.2.1 C.2.2.2.2.1 (C.2.2.2.2.2.1 _ hcl) (rv_over C.2.2.2.2.2.2.2.2.1 ht hty) C.2.2.2.2.2.2.2.2.1.1 hW.1 hW.2.1 hS (fun q hq => Nat.le_trans C.2.2.2.2.2.2.2.2.1.2.2.2.1 hq) hn hN hb b1 b2 hdg (fun a cA H1 hK hP hD hS1 => by
    have hc : cA = E.2.1 (4 + t) := rv_aC (by omega) C.2.2.2.2.2.2.2.2.1 (by rw [hty]; exact (hK.2 7 (cA, .object Cn) (by simp [rv_tys])).2)
    subst hc
    refine kk a H1 locs (hW.new ?_ hP hD) hS1
    have e := rv_newcell (S := S) (aC := E.2.1) (ad := rv_at ad (64 + S.1.length) a) (t := 4 + t) (n := N)
    rw [show 50 + (4 + t) = 54 + t by omega] at e
    rw [e]
    rcases (show t = 0 ∨ t = 1 ∨ t = 2 by omega) with rfl | rfl | rfl <;> rfl)) k
theorem re_getsW {ix i : Nat} (hi : i < 23) (hl : Cond.fieldLink X.1 ix RX11 (rv_words.getD i "") "LRimCoins$Word;" ∈ rv_wN) (hdg : decode X.2.1 pc = .ok (.getstatic ix, 3)) (k : rv_Ev X d (pc + 3) lv (.ref i :: st) S r S') : rv_Ev X d pc lv st S r S' :=
  rv_st1 (fun p l e R s m args below meth c E Q C ad H locs ls n1 n2 hW hS hL kk => va_gets C.1 C.2.1 ((C.2.2.2.2.2.2.2.2.1.2.2.1.1.1 i (by show i < 23; exact hi)).1) hS C.2.2.2.2.1 (C.2.2.2.2.2.1 _ hl) (fun _ h => h) hdg (by have := kk ls hL; simp only [List.map_cons, rv_cv, hW.2.2.1 i (by omega)] at this; exact this)) k
theorem re_getsA {ix : Nat} (hl : Cond.fieldLink X.1 ix RX11 "ALL" "[LRimCoins$Word;" ∈ rv_wN) (hdg : decode X.2.1 pc = .ok (.getstatic ix, 3)) (k : rv_Ev X d (pc + 3) lv (.ref 23 :: st) S r S') : rv_Ev X d pc lv st S r S' :=
  rv_st1 (fun p l e R s m args below meth c E Q C ad H locs ls n1 n2 hW hS hL kk => va_gets C.1 C.2.1 C.2.2.2.2.2.2.2.2.1.2.2.1.2.2.1 hS C.2.2.2.2.1 (C.2.2.2.2.2.1 _ hl) (fun _ h => h) hdg (by have := kk ls hL; simp only [List.map_cons, rv_cv, hW.2.2.1 23 (by omega)] at this; exact this)) k
theorem re_getsS {ix : Nat} (hl : Cond.fieldLink X.1 ix RX0 "$SwitchMap$RimCoins$Word" "[I" ∈ rv_wN) (hdg : decode X.2.1 pc = .ok (.getstatic ix, 3)) (k : rv_Ev X d (pc + 3) lv (.ref 24 :: st) S r S') : rv_Ev X d pc lv st S r S' :=
  rv_st1 (fun p l e R s m args below meth c E Q C ad H locs ls n1 n2 hW hS hL kk => va_gets C.1 C.2.1 C.2.2.2.2.2.2.2.2.1.2.2.1.2.2.2.2.1 hS C.2.2.2.2.1 (C.2.2.2.2.2.1 _ hl) (fun _ h => h) hdg (by have := kk ls hL; simp only [List.map_cons, rv_cv, hW.2.2.1 24 (by omega)] at this; exact this)) k
theorem re_aldW {i : Int32} (hin : vp_in i 23) (hdg : decode X.2.1 pc = .ok (.aaload, 1)) (k : rv_Ev X d (pc + 1) lv (.ref i.toNatClampNeg :: st) S r S') : rv_Ev X d pc lv (.int i :: .ref 23 :: st) S r S' :=
  rv_st1 (fun p l e R s m args below meth c E Q C ad H locs ls n1 n2 hW hS hL kk => by
    obtain ⟨scr, h1, h2, h3, h4, h5, h6⟩ := (C.2.2.2.2.2.2.2.2.1.2.2.1.2.2.2.1).kept hS.2.1
    have hlt : i.toNatClampNeg < 23 := Nat.not_le.mp fun q => hin (Or.inr q)
    have k1 := kk ls hL
    simp only [List.map_cons, rv_cv] at k1 ⊢
    rw [hW.2.2.1 i.toNatClampNeg (by omega)] at k1
    rw [hW.2.2.1 23 (by omega)]
    exact W.aald C.1 C.2.1 h1 h2 rfl h3 (by rw [h4]; exact hin) (h5 _ hlt) rfl rfl hdg k1) k
theorem re_aldS {i : Int32} (hin : vp_in i 23) (hdg : decode X.2.1 pc = .ok (.iaload, 1)) (k : rv_Ev X d (pc + 1) lv (.int (rv_sw i.toNatClampNeg) :: st) S r S') : rv_Ev X d pc lv (.int i :: .ref 24 :: st) S r S' :=
  rv_st1 (fun p l e R s m args below meth c E Q C ad H locs ls n1 n2 hW hS hL kk => by
    obtain ⟨scr, h1, h2, h3, h4, h5, h6⟩ := (C.2.2.2.2.2.2.2.2.1.2.2.1.2.2.2.2.2).kept hS.2.1
    have hlt : i.toNatClampNeg < 23 := Nat.not_le.mp fun q => hin (Or.inr q)
    have k1 := kk ls hL
    simp only [List.map_cons, rv_cv] at k1 ⊢
    rw [hW.2.2.1 24 (by omega)]
    exact W.iald C.1 C.2.1 h1 h2 h3 (by rw [h4]; exact hin) (h5 _ hlt) rfl rfl hdg k1) k
theorem re_alenW (hdg : decode X.2.1 pc = .ok (.arraylength, 1)) (k : rv_Ev X d (pc + 1) lv (.int 23 :: st) S r S') : rv_Ev X d pc lv (.ref 23 :: st) S r S' :=
  rv_st1 (fun p l e R s m args below meth c E Q C ad H locs ls n1 n2 hW hS hL kk => by
    obtain ⟨scr, h1, h2, h3, h4, h5, h6⟩ := (C.2.2.2.2.2.2.2.2.1.2.2.1.2.2.2.1).kept hS.2.1
    have k1 := kk ls hL
    simp only [List.map_cons, rv_cv] at k1 ⊢
    rw [hW.2.2.1 23 (by omega)]
    exact W.alen (n := 23) C.1 C.2.1 h1 h2 (by rw [h4]; rfl) rfl rfl hdg k1) k
theorem re_wcode {ix i : Nat} (hi : i < 23) (hl : Cond.fieldLink X.1 ix RX11 "code" "J" ∈ rv_wN) (hdg : decode X.2.1 pc = .ok (.getfield ix, 3)) (k : rv_Ev X d (pc + 3) lv (.long (rv_wcode i) :: st) S r S') : rv_Ev X d pc lv (.ref i :: st) S r S' :=
  rv_st1 (fun p l e R s m args below meth c E Q C ad H locs ls n1 n2 hW hS hL kk => by
    obtain ⟨cf, k, fi, f, cell, h1, h2, h3, h4, h5, h6⟩ := ((C.2.2.2.2.2.2.2.2.1.2.2.1.2.1 i hi)).kept hS.2.1
    have k1 := kk ls hL
    simp only [List.map_cons, rv_cv] at k1 ⊢
    rw [hW.2.2.1 i (by omega)]
    exact W.getf C.1 C.2.1 C.2.2.2.2.1 (C.2.2.2.2.2.1 _ hl) h1 h2 h3 h4 (v := .long (rv_wcode i)) h5 rfl rfl hdg k1) k
theorem rv_updR {a i v : Nat} {ad : Nat → Nat} : (fun j => ((rv_sR S a i (some v)).2.2.2 a j).map ad) = va_up (fun j => (S.2.2.2 a j).map ad) i (some (ad v)) := by
  funext j
  by_cases hj : j = i <;> simp [rv_sR, va_up, hj]
theorem re_qast {a n t v c m0 : Nat} {i : Int32} (ht : t = 1 ∧ c = 8 ∨ t = 2 ∧ c = 5) (hf : rv_is S a (54 + t, n)) (hv : rv_is S v (c, m0)) (hin : vp_in i n) (hdg : decode X.2.1 pc = .ok (.aastore, 1)) (kk : rv_Ev X d (pc + 1) lv st (rv_sR S a i.toNatClampNeg (some v)) r S') : rv_Ev X d pc lv (.ref v :: .int i :: .ref a :: st) S r S' :=
  rv_st2 hf.1 (rv_sR_off S a _ (some v)) (fun p l e R s m args below meth c0 E Q C ad H locs ls n1 n2 hW hS hL kk => by
    have hr : ∀ y b, (rv_sR S a i.toNatClampNeg (some v)).2.2.2 a y = some b → b < 64 + S.1.length := fun y b z => by
      by_cases hy : y = i.toNatClampNeg
      · simp [rv_sR, hy] at z
        have := hv.ok
        omega
      · simp [rv_sR, hy] at z
        exact hW.2.2.2 a y b z
    rcases ht with ⟨rfl, rfl⟩ | ⟨rfl, rfl⟩
    · exact va_astq (r := (RX9, TX9, 10)) (ci := 8) C.1 C.2.1 C.2.2.2.2.2.2.2.2.1.1 hW.1 hW.2.1 hS _ 5 _ (rv_W_get hf) rfl (rv_W_get hv) rfl hin hdg (fun H1 locs1 hP hD hS1 => kk H1 locs1 (hW.set (rv_sR_off S a _ (some v)) hf (by show Sum.inl (E.2.1 5, n, Sum.inr (Sum.inr (Sum.inr (Sum.inr (fun j => ((rv_sR S a i.toNatClampNeg (some v)).2.2.2 a j).map ad))))) = _; rw [rv_updR]; rfl) hr hP hD) hS1)
    · exact va_astq (r := (RX6, TX6, 5)) (ci := 5) C.1 C.2.1 C.2.2.2.2.2.2.2.2.1.1 hW.1 hW.2.1 hS _ 6 _ (rv_W_get hf) rfl (rv_W_get hv) rfl hin hdg (fun H1 locs1 hP hD hS1 => kk H1 locs1 (hW.set (rv_sR_off S a _ (some v)) hf (by show Sum.inl (E.2.1 6, n, Sum.inr (Sum.inr (Sum.inr (Sum.inr (fun j => ((rv_sR S a i.toNatClampNeg (some v)).2.2.2 a j).map ad))))) = _; rw [rv_updR]; rfl) hr hP hD) hS1)) kk
theorem re_wast {a n v : Nat} {i : Int32} (hf : rv_is S a (54, n)) (hv : v < 23) (hin : vp_in i n) (hdg : decode X.2.1 pc = .ok (.aastore, 1)) (kk : rv_Ev X d (pc + 1) lv st (rv_sR S a i.toNatClampNeg (some v)) r S') : rv_Ev X d pc lv (.ref v :: .int i :: .ref a :: st) S r S' :=
  rv_st2 hf.1 (rv_sR_off S a _ (some v)) (fun p l e R s m args below meth c0 E Q C ad H locs ls n1 n2 hW hS hL kk => by
    have hr : ∀ y b, (rv_sR S a i.toNatClampNeg (some v)).2.2.2 a y = some b → b < 64 + S.1.length := fun y b z => by
      by_cases hy : y = i.toNatClampNeg
      · simp [rv_sR, hy] at z
        omega
      · simp [rv_sR, hy] at z
        exact hW.2.2.2 a y b z
    have hO : ∃ cellV : Cell, H[ad v]? = some cellV ∧ cellV.vm.isStatics = false ∧ s.vm.findClass RX11 = some cellV.cls := by
      rw [hW.2.2.1 v (by omega)]
      exact va_recvEc C.2.2.2.2.2.2.2.2.1.2.2.1.1 (by show v < 23; exact hv) hS
    exact vb_astq (E := RX11) (C := RX11) C.1 C.2.1 C.2.2.2.2.2.2.2.2.1.1 hW.1 hW.2.1 hS _ 4 (rv_W_get hf) rfl hO vb_asgS hin hdg (fun H1 locs1 hP hD hS1 => kk H1 locs1 (hW.set (rv_sR_off S a _ (some v)) hf (by show Sum.inl (E.2.1 4, n, Sum.inr (Sum.inr (Sum.inr (Sum.inr (fun j => ((rv_sR S a i.toNatClampNeg (some v)).2.2.2 a j).map ad))))) = _; rw [rv_updR]; rfl) hr hP hD) hS1)) kk
theorem re_sld {i : Int32} {L : Nat} {xs : Nat → Int32} (hX : X.2.2.2.2.2.2 = some (L, xs)) (hin : vp_in i L) (hdg : decode X.2.1 pc = .ok (.iaload, 1)) (k : rv_Ev X d (pc + 1) lv (.int (xs i.toNatClampNeg) :: st) S r S') : rv_Ev X d pc lv (.int i :: .ref 25 :: st) S r S' :=
  rv_st1 (fun p l e R s m args below meth c E Q C ad H locs ls n1 n2 hW hS hL kk => by
    obtain ⟨h1, h2, h3⟩ := C.2.2.2.2.2.2.2.2.2.2.2.1 _ hX
    have k1 := kk ls hL
    simp only [List.map_cons, rv_cv] at k1 ⊢
    rw [hW.2.2.1 25 (by omega)]
    exact va_sld C.1 C.2.1 h1 h2 h3 hS hin hdg k1) k
theorem re_slen {L : Nat} {xs : Nat → Int32} (hX : X.2.2.2.2.2.2 = some (L, xs)) (hdg : decode X.2.1 pc = .ok (.arraylength, 1)) (k : rv_Ev X d (pc + 1) lv (.int (Int32.ofNat L) :: st) S r S') : rv_Ev X d pc lv (.ref 25 :: st) S r S' :=
  rv_st1 (fun p l e R s m args below meth c E Q C ad H locs ls n1 n2 hW hS hL kk => by
    obtain ⟨h1, h2, h3⟩ := C.2.2.2.2.2.2.2.2.2.2.2.1 _ hX
    have k1 := kk ls hL
    simp only [List.map_cons, rv_cv] at k1 ⊢
    rw [hW.2.2.1 25 (by omega)]
    exact va_slen C.1 C.2.1 h1 h2 h3 hS hdg k1) k
/-- returns -/
theorem re_vret (hdg : decode X.2.1 pc = .ok (.return_, 1)) : rv_Ev X d pc lv [] S none S := ⟨rv_up.rf _ S, pc, lv, rv_Go.rf, hdg, fun _ _ _ h => by cases h⟩
theorem re_iret {v : Int32} (hn : ∀ ty, X.2.2.1 = some ty → narrow ty (.int v) = .int v) (hdg : decode X.2.1 pc = .ok (.ireturn, 1)) : rv_Ev X d pc lv [.int v] S (some (.int v)) S := ⟨rv_up.rf _ S, pc, lv, rv_Go.rf, hdg, fun ty w h1 h2 => by cases h2; exact hn ty h1⟩
theorem re_lret {v : Int64} (hdg : decode X.2.1 pc = .ok (.lreturn, 1)) : rv_Ev X d pc lv [.long v] S (some (.long v)) S := ⟨rv_up.rf _ S, pc, lv, rv_Go.rf, hdg, fun ty w h1 h2 => by cases h2⟩
theorem re_thr : rv_Ev X d pc lv [] S (some (.retAddr pc)) S := ⟨rv_up.rf _ S, pc, lv, rv_Go.rf, rfl, fun ty w h1 h2 => by cases h2⟩
theorem re_aret {v : Nat} (hdg : decode X.2.1 pc = .ok (.areturn, 1)) : rv_Ev X d pc lv [.ref v] S (some (.ref v)) S := ⟨rv_up.rf _ S, pc, lv, rv_Go.rf, hdg, fun ty w h1 h2 => by cases h2⟩
end RVN

