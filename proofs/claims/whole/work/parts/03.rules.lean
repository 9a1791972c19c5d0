/-! THE JUDGEMENT rv_Ev: from a frame (pc, locals, stack) over a world S the method comes to its return with r, over S'. A rule an instruction. -/
/-- a method's frame: class, bytes, answer's type, locals, whether it is a constructor, whether it makes cells, the script where it has one -/
abbrev rvM : Type := String × ByteArray × Option FieldType × Nat × Bool × Bool × Option (Nat × (Nat → Int32))
def rv_Cx (X : rvM) (d : Nat) (p : Program) (l : Launch) (R : Room) (s : State) (m : MethodId) (args : Array Value) (meth : Method) (c : Code) (E : rvE) : Prop :=
  p.tables.exec = Jvm.exec ∧ c.code = X.2.1 ∧ meth.sig.returnType = X.2.2.1 ∧ c.maxLocals = X.2.2.2.1 ∧ s.vm.findClass X.1 = some m.cls ∧ (∀ w ∈ rv_wN, w.before args s = true) ∧ meth.locks = false ∧ (X.2.2.2.2.1 = true → meth.name = "<init>") ∧ rv_Env E s ∧ d ≤ R.frames ∧ 64 * d ≤ R.locals ∧ (∀ q, X.2.2.2.2.2.2 = some q → va_X (E.2.2.2 25) q.1 q.2 s s.heap ∧ E.2.2.2 25 < s.heap.size ∧ ¬ rv_A E (E.2.2.2 25)) ∧ l.stackTraces = false
def rv_ret (r : Option Value) : Instr := match r with
  | none => .return_
  | some (.int _) => .ireturn
  | some (.long _) => .lreturn
  | some _ => .areturn
/-- a method's end: its return; or, of a return address k, the place k where an exception is made, to be thrown -/
def rv_end (cc : ByteArray) (pc : Nat) (r : Option Value) : Prop := match r with
  | some (.retAddr k) => pc = k
  | r => decode cc pc = .ok (rv_ret r, 1)
def rv_rst (r : Option Value) : List Value := match r with
  | some (.retAddr _) => []
  | r => r.toList
abbrev rv_lv (ad : Nat → Nat) (lv : List (Nat × Value)) : List (Nat × Value) := lv.map fun q => (q.1, rv_cv ad q.2)
def rv_Go (X : rvM) (d : Nat) (pc : Nat) (lv : List (Nat × Value)) (st : List Value) (S : rvS) (pc' : Nat) (lv' : List (Nat × Value)) (st' : List Value) (S' : rvS) : Prop :=
  ∀ (p : Program) (l : Launch) (e : Env) (R : Room) (s : State) (m : MethodId) (args : Array Value) (below : List Frame) (meth : Method) (c : Code) (E : rvE) (Q : State → Prop), rv_Cx X d p l R s m args meth c E →
  ∀ (ad : Nat → Nat) (H : Heap) (locs : List Loc) (ls : Array Slot) (n1 n2 : Nat), rv_Wd E ad S H → va_S (rv_A E) s.heap H locs → lv_has ls X.2.2.2.1 (rv_lv ad lv) → n1 + rv_len S' ≤ R.cells + rv_len S → n2 + rv_sz S' ≤ R.slots + rv_sz S →
  (∀ (ad' : Nat → Nat) (H' : Heap) (locs' : List Loc) (ls' : Array Slot) (n1' n2' : Nat), (∀ i, i < 64 + S.1.length → ad' i = ad i) → (S'.1.length = S.1.length → ad' = ad) → rv_Wd E ad' S' H' → va_S (rv_A E) s.heap H' locs' → lv_has ls' X.2.2.2.1 (rv_lv ad' lv') → n1' + rv_len S = n1 + rv_len S' → n2' + rv_sz S = n2 + rv_sz S' →
    W p l e R s m args below meth c H' locs' n1' n2' Q (F0 m pc' ls' (st'.map (rv_cv ad')))) →
  W p l e R s m args below meth c H locs n1 n2 Q (F0 m pc ls (st.map (rv_cv ad)))
def rv_up (al : Bool) (S S' : rvS) : Prop := (al = false → rv_same S S') ∧ S.1.length ≤ S'.1.length ∧ rv_len S ≤ rv_len S' ∧ rv_sz S ≤ rv_sz S'
theorem rv_up.rf (al : Bool) (S : rvS) : rv_up al S S := ⟨fun _ => ⟨rfl, rfl⟩, Nat.le_refl _, Nat.le_refl _, Nat.le_refl _⟩
theorem rv_same.len {S S' : rvS} (h : rv_same S S') : rv_len S' = rv_len S := by unfold rv_len; rw [h.1, h.2]
theorem rv_same.sz {S S' : rvS} (h : rv_same S S') : rv_sz S' = rv_sz S := by unfold rv_sz; rw [h.1, h.2]
theorem rv_up.sh {al : Bool} {S S' : rvS} (h : rv_same S S') : rv_up al S S' := ⟨fun _ => h, by rw [h.1]; exact Nat.le_refl _, Nat.le_of_eq h.len.symm, Nat.le_of_eq h.sz.symm⟩
theorem rv_up.tr {al : Bool} {S S1 S' : rvS} (h : rv_up al S S1) (k : rv_up al S1 S') : rv_up al S S' := ⟨fun z => ⟨(k.1 z).1.trans (h.1 z).1, (k.1 z).2.trans (h.1 z).2⟩, Nat.le_trans h.2.1 k.2.1, Nat.le_trans h.2.2.1 k.2.2.1, Nat.le_trans h.2.2.2 k.2.2.2⟩
/-- the method returns -/
def rv_Ev (X : rvM) (d : Nat) (pc : Nat) (lv : List (Nat × Value)) (st : List Value) (S : rvS) (r : Option Value) (S' : rvS) : Prop :=
  rv_up X.2.2.2.2.2.1 S S' ∧ ∃ (pc' : Nat) (lv' : List (Nat × Value)), rv_Go X d pc lv st S pc' lv' (rv_rst r) S' ∧ rv_end X.2.1 pc' r ∧ (∀ (ty : FieldType) (v : Int32), X.2.2.1 = some ty → r = some (.int v) → narrow ty (.int v) = .int v)
section RVR
variable {X : rvM} {d pc : Nat} {lv : List (Nat × Value)} {st : List Value} {S S' : rvS} {r : Option Value}
theorem rv_Go.rf : rv_Go X d pc lv st S pc lv st S := fun p l e R s m args below meth c E Q C ad H locs ls n1 n2 hW hS hl b1 b2 kk => kk ad H locs ls n1 n2 (fun _ _ => rfl) (fun _ => rfl) hW hS hl rfl rfl
theorem rv_Go.tr {pc1 pc2 : Nat} {lv1 lv2 : List (Nat × Value)} {st1 st2 : List Value} {S1 S2 : rvS} {al : Bool} (u1 : rv_up al S S1) (u2 : rv_up al S1 S2) (h : rv_Go X d pc lv st S pc1 lv1 st1 S1) (k : rv_Go X d pc1 lv1 st1 S1 pc2 lv2 st2 S2) : rv_Go X d pc lv st S pc2 lv2 st2 S2 := by
  intro p l e R s m args below meth c E Q C ad H locs ls n1 n2 hW hS hl b1 b2 kk
  have v1 := u1.2.1; have v2 := u1.2.2.1; have v3 := u1.2.2.2; have w1 := u2.2.1; have w2 := u2.2.2.1; have w3 := u2.2.2.2
  refine h p l e R s m args below meth c E Q C ad H locs ls n1 n2 hW hS hl (by omega) (by omega) (fun ad1 H1 locs1 ls1 m1 m2 g1 g0 g2 g3 g4 g5 g6 => ?_)
  refine k p l e R s m args below meth c E Q C ad1 H1 locs1 ls1 m1 m2 g2 g3 g4 (by omega) (by omega) (fun ad2 H2 locs2 ls2 k1 k2 f1 f0 f2 f3 f4 f5 f6 => ?_)
  exact kk ad2 H2 locs2 ls2 k1 k2 (fun i hi => (f1 i (by omega)).trans (g1 i hi)) (fun z => (f0 (by omega)).trans (g0 (by omega))) f2 f3 f4 (by omega) (by omega)
theorem rv_Ev.go {pc1 : Nat} {lv1 : List (Nat × Value)} {st1 : List Value} {S1 : rvS} (u : rv_up X.2.2.2.2.2.1 S S1) (h : rv_Go X d pc lv st S pc1 lv1 st1 S1) (k : rv_Ev X d pc1 lv1 st1 S1 r S') : rv_Ev X d pc lv st S r S' := by
  obtain ⟨k1, pc', lv', k2, k3⟩ := k
  exact ⟨u.tr k1, pc', lv', rv_Go.tr u k1 h k2, k3⟩
/-- a step that leaves the world as it is -/
theorem rv_st1 {pc1 : Nat} {lv1 : List (Nat × Value)} {st1 : List Value} (h : ∀ (p : Program) (l : Launch) (e : Env) (R : Room) (s : State) (m : MethodId) (args : Array Value) (below : List Frame) (meth : Method) (c : Code) (E : rvE) (Q : State → Prop), rv_Cx X d p l R s m args meth c E →
    ∀ (ad : Nat → Nat) (H : Heap) (locs : List Loc) (ls : Array Slot) (n1 n2 : Nat), rv_Wd E ad S H → va_S (rv_A E) s.heap H locs → lv_has ls X.2.2.2.1 (rv_lv ad lv) →
    (∀ (ls' : Array Slot), lv_has ls' X.2.2.2.1 (rv_lv ad lv1) → W p l e R s m args below meth c H locs n1 n2 Q (F0 m pc1 ls' (st1.map (rv_cv ad)))) →
    W p l e R s m args below meth c H locs n1 n2 Q (F0 m pc ls (st.map (rv_cv ad)))) (k : rv_Ev X d pc1 lv1 st1 S r S') : rv_Ev X d pc lv st S r S' :=
  rv_Ev.go (rv_up.rf _ S) (fun p l e R s m args below meth c E Q C ad H locs ls n1 n2 hW hS hl b1 b2 kk => h p l e R s m args below meth c E Q C ad H locs ls n1 n2 hW hS hl (fun ls' hl' => kk ad H locs ls' n1 n2 (fun _ _ => rfl) (fun _ => rfl) hW hS hl' rfl rfl)) k
/-- a step that writes one cell -/
theorem rv_st2 {pc1 a : Nat} {st1 : List Value} {S1 : rvS} (ha : 64 ≤ a) (ho : rv_off S S1 a) (h : ∀ (p : Program) (l : Launch) (e : Env) (R : Room) (s : State) (m : MethodId) (args : Array Value) (below : List Frame) (meth : Method) (c : Code) (E : rvE) (Q : State → Prop), rv_Cx X d p l R s m args meth c E →
    ∀ (ad : Nat → Nat) (H : Heap) (locs : List Loc) (ls : Array Slot) (n1 n2 : Nat), rv_Wd E ad S H → va_S (rv_A E) s.heap H locs → lv_has ls X.2.2.2.1 (rv_lv ad lv) →
    (∀ (H' : Heap) (locs' : List Loc), rv_Wd E ad S1 H' → va_S (rv_A E) s.heap H' locs' → W p l e R s m args below meth c H' locs' n1 n2 Q (F0 m pc1 ls (st1.map (rv_cv ad)))) →
    W p l e R s m args below meth c H locs n1 n2 Q (F0 m pc ls (st.map (rv_cv ad)))) (k : rv_Ev X d pc1 lv st1 S1 r S') : rv_Ev X d pc lv st S r S' := by
  have hs : rv_same S S1 := ⟨ho.1, (ho.2 60 (by omega)).1⟩
  have e1 := hs.len
  have e2 := hs.sz
  exact rv_Ev.go (rv_up.sh hs) (fun p l e R s m args below meth c E Q C ad H locs ls n1 n2 hW hS hl b1 b2 kk => h p l e R s m args below meth c E Q C ad H locs ls n1 n2 hW hS hl (fun H' locs' hW' hS' => kk ad H' locs' ls n1 n2 (fun _ _ => rfl) (fun _ => rfl) hW' hS' hl (by omega) (by omega))) k
theorem rv_lv_set {ad : Nat → Nat} {i : Nat} {v : Value} : (i, rv_cv ad v) :: (rv_lv ad lv).filter (fun q => !(q.1 == i) && !(q.1 + 1 == i && q.2.category == 2)) = rv_lv ad ((i, v) :: lv.filter (fun q => !(q.1 == i) && !(q.1 + 1 == i && q.2.category == 2))) := by
  simp only [rv_lv, List.map_cons, List.filter_map]
  congr 3
  funext q
  simp [rv_cv_cat]
theorem rv_lv_set2 {ad : Nat → Nat} {i : Nat} {v : Value} : (i, rv_cv ad v) :: (rv_lv ad lv).filter (fun q => !(q.1 == i) && (!(q.1 == i + 1) && !(q.1 + 1 == i && q.2.category == 2))) = rv_lv ad ((i, v) :: lv.filter (fun q => !(q.1 == i) && (!(q.1 == i + 1) && !(q.1 + 1 == i && q.2.category == 2)))) := by
  simp only [rv_lv, List.map_cons, List.filter_map]
  congr 3
  funext q
  simp [rv_cv_cat]
theorem rv_lv_at {ad : Nat → Nat} {nL : Nat} {ls : Array Slot} (h : lv_has ls nL (rv_lv ad lv)) {k i : Nat} {v : Value} (hk : lv[k]? = some (i, v)) : ls[i]? = some (.val (rv_cv ad v)) := lv_at h k (by simp [rv_lv, hk])

theorem re_iconst {n : Int} (v : Int32) (hdg : decode X.2.1 pc = .ok (.iconst n, 1)) (hv : Int32.ofInt n = v) (k : rv_Ev X d (pc + 1) lv (.int v :: st) S r S') : rv_Ev X d pc lv st S r S' :=
  rv_st1 (fun p l e R s m args below meth c E Q C ad H locs ls n1 n2 hW hS hl kk => lv_iconst C.1 C.2.1 hdg hv (kk ls hl)) k
theorem re_bipush {n : Int} (v : Int32) (hdg : decode X.2.1 pc = .ok (.bipush n, 2)) (hv : (Int8.ofInt n).toInt32 = v) (k : rv_Ev X d (pc + 2) lv (.int v :: st) S r S') : rv_Ev X d pc lv st S r S' :=
  rv_st1 (fun p l e R s m args below meth c E Q C ad H locs ls n1 n2 hW hS hl kk => lv_bipush C.1 C.2.1 hdg hv (kk ls hl)) k
theorem re_sipush {n : Int} (v : Int32) (hdg : decode X.2.1 pc = .ok (.sipush n, 3)) (hv : (Int16.ofInt n).toInt32 = v) (k : rv_Ev X d (pc + 3) lv (.int v :: st) S r S') : rv_Ev X d pc lv st S r S' :=
  rv_st1 (fun p l e R s m args below meth c E Q C ad H locs ls n1 n2 hW hS hl kk => lv_sipush C.1 C.2.1 hdg hv (kk ls hl)) k
theorem re_lconst {n : Fin 2} (v : Int64) (hdg : decode X.2.1 pc = .ok (.lconst n, 1)) (hv : Int64.ofNat (n : Nat) = v) (k : rv_Ev X d (pc + 1) lv (.long v :: st) S r S') : rv_Ev X d pc lv st S r S' :=
  rv_st1 (fun p l e R s m args below meth c E Q C ad H locs ls n1 n2 hW hS hl kk => lv_lconst C.1 C.2.1 hdg hv (kk ls hl)) k
theorem re_ldc {ix : Nat} {v : Int32} (hw : Cond.constant X.1 ix v ∈ rv_wN) (hdg : decode X.2.1 pc = .ok (.ldc ix, 2)) (k : rv_Ev X d (pc + 2) lv (.int v :: st) S r S') : rv_Ev X d pc lv st S r S' :=
  rv_st1 (fun p l e R s m args below meth c E Q C ad H locs ls n1 n2 hW hS hl kk => lv_ldc C.1 C.2.1 C.2.2.2.2.1 (C.2.2.2.2.2.1 _ hw) hdg (kk ls hl)) k
theorem re_ldcw {ix : Nat} {v : Int32} (hw : Cond.constant X.1 ix v ∈ rv_wN) (hdg : decode X.2.1 pc = .ok (.ldc_w ix, 3)) (k : rv_Ev X d (pc + 3) lv (.int v :: st) S r S') : rv_Ev X d pc lv st S r S' :=
  rv_st1 (fun p l e R s m args below meth c E Q C ad H locs ls n1 n2 hW hS hl kk => lv_ldcw C.1 C.2.1 C.2.2.2.2.1 (C.2.2.2.2.2.1 _ hw) hdg (kk ls hl)) k
theorem re_ldc2 {ix : Nat} {v : Int64} (hw : Cond.constantLong X.1 ix v ∈ rv_wN) (hdg : decode X.2.1 pc = .ok (.ldc2_w ix, 3)) (k : rv_Ev X d (pc + 3) lv (.long v :: st) S r S') : rv_Ev X d pc lv st S r S' :=
  rv_st1 (fun p l e R s m args below meth c E Q C ad H locs ls n1 n2 hW hS hl kk => lv_ldc2 C.1 C.2.1 C.2.2.2.2.1 (C.2.2.2.2.2.1 _ hw) hdg (kk ls hl)) k
theorem re_iloadn (q : Nat) {i : Fin 4} {x : Int32} (hdg : decode X.2.1 pc = .ok (.iload_n i, 1)) (hq : lv[q]? = some ((i : Nat), .int x)) (k : rv_Ev X d (pc + 1) lv (.int x :: st) S r S') : rv_Ev X d pc lv st S r S' :=
  rv_st1 (fun p l e R s m args below meth c E Q C ad H locs ls n1 n2 hW hS hl kk => lv_iload_n C.1 C.2.1 hdg rfl (rv_lv_at hl hq) (kk ls hl)) k
theorem re_iload (q : Nat) {i : Nat} {x : Int32} (hdg : decode X.2.1 pc = .ok (.iload i, 2)) (hq : lv[q]? = some (i, .int x)) (k : rv_Ev X d (pc + 2) lv (.int x :: st) S r S') : rv_Ev X d pc lv st S r S' :=
  rv_st1 (fun p l e R s m args below meth c E Q C ad H locs ls n1 n2 hW hS hl kk => lv_iload C.1 C.2.1 hdg (rv_lv_at hl hq) (kk ls hl)) k
theorem re_lloadn (q : Nat) {i : Fin 4} {x : Int64} (hdg : decode X.2.1 pc = .ok (.lload_n i, 1)) (hq : lv[q]? = some ((i : Nat), .long x)) (k : rv_Ev X d (pc + 1) lv (.long x :: st) S r S') : rv_Ev X d pc lv st S r S' :=
  rv_st1 (fun p l e R s m args below meth c E Q C ad H locs ls n1 n2 hW hS hl kk => lv_lload_n C.1 C.2.1 hdg rfl (rv_lv_at hl hq) (kk ls hl)) k
theorem re_lload (q : Nat) {i : Nat} {x : Int64} (hdg : decode X.2.1 pc = .ok (.lload i, 2)) (hq : lv[q]? = some (i, .long x)) (k : rv_Ev X d (pc + 2) lv (.long x :: st) S r S') : rv_Ev X d pc lv st S r S' :=
  rv_st1 (fun p l e R s m args below meth c E Q C ad H locs ls n1 n2 hW hS hl kk => lv_lload C.1 C.2.1 hdg (rv_lv_at hl hq) (kk ls hl)) k
theorem re_aloadn (q : Nat) {i : Fin 4} {x : Nat} (hdg : decode X.2.1 pc = .ok (.aload_n i, 1)) (hq : lv[q]? = some ((i : Nat), .ref x)) (k : rv_Ev X d (pc + 1) lv (.ref x :: st) S r S') : rv_Ev X d pc lv st S r S' :=
  rv_st1 (fun p l e R s m args below meth c E Q C ad H locs ls n1 n2 hW hS hl kk => lv_aload_n C.1 C.2.1 hdg rfl (rv_lv_at hl hq) (kk ls hl)) k
theorem re_aload (q : Nat) {i : Nat} {x : Nat} (hdg : decode X.2.1 pc = .ok (.aload i, 2)) (hq : lv[q]? = some (i, .ref x)) (k : rv_Ev X d (pc + 2) lv (.ref x :: st) S r S') : rv_Ev X d pc lv st S r S' :=
  rv_st1 (fun p l e R s m args below meth c E Q C ad H locs ls n1 n2 hW hS hl kk => lv_aload C.1 C.2.1 hdg (rv_lv_at hl hq) (kk ls hl)) k
theorem re_istoren {n : Fin 4} {i : Nat} {x : Int32} {lv1 : List (Nat × Value)} (hdg : decode X.2.1 pc = .ok (.istore_n n, 1)) (hi : (n : Nat) = i) (hn : i < X.2.2.2.1) (he : (i, .int x) :: lv.filter (fun q => !(q.1 == i) && !(q.1 + 1 == i && q.2.category == 2)) = lv1) (k : rv_Ev X d (pc + 1) lv1 st S r S') : rv_Ev X d pc lv (.int x :: st) S r S' := by
  subst he
  exact rv_st1 (fun p l e R s m args below meth c E Q C ad H locs ls n1 n2 hW hS hl kk => lv_istore_n C.1 C.2.1 hdg hi hl hn (rv_lv_set (v := .int x)) (fun ls' hl' => kk ls' hl')) k
theorem re_istore {i : Nat} {x : Int32} {lv1 : List (Nat × Value)} (hdg : decode X.2.1 pc = .ok (.istore i, 2)) (hn : i < X.2.2.2.1) (he : (i, .int x) :: lv.filter (fun q => !(q.1 == i) && !(q.1 + 1 == i && q.2.category == 2)) = lv1) (k : rv_Ev X d (pc + 2) lv1 st S r S') : rv_Ev X d pc lv (.int x :: st) S r S' := by
  subst he
  exact rv_st1 (fun p l e R s m args below meth c E Q C ad H locs ls n1 n2 hW hS hl kk => lv_istore C.1 C.2.1 hdg hl hn (rv_lv_set (v := .int x)) (fun ls' hl' => kk ls' hl')) k
theorem re_astoren {n : Fin 4} {i : Nat} {x : Nat} {lv1 : List (Nat × Value)} (hdg : decode X.2.1 pc = .ok (.astore_n n, 1)) (hi : (n : Nat) = i) (hn : i < X.2.2.2.1) (he : (i, .ref x) :: lv.filter (fun q => !(q.1 == i) && !(q.1 + 1 == i && q.2.category == 2)) = lv1) (k : rv_Ev X d (pc + 1) lv1 st S r S') : rv_Ev X d pc lv (.ref x :: st) S r S' := by
  subst he
  exact rv_st1 (fun p l e R s m args below meth c E Q C ad H locs ls n1 n2 hW hS hl kk => lv_astore_n C.1 C.2.1 hdg hi hl hn (rv_lv_set (v := .ref x)) (fun ls' hl' => kk ls' hl')) k
theorem re_astore {i : Nat} {x : Nat} {lv1 : List (Nat × Value)} (hdg : decode X.2.1 pc = .ok (.astore i, 2)) (hn : i < X.2.2.2.1) (he : (i, .ref x) :: lv.filter (fun q => !(q.1 == i) && !(q.1 + 1 == i && q.2.category == 2)) = lv1) (k : rv_Ev X d (pc + 2) lv1 st S r S') : rv_Ev X d pc lv (.ref x :: st) S r S' := by
  subst he
  exact rv_st1 (fun p l e R s m args below meth c E Q C ad H locs ls n1 n2 hW hS hl kk => lv_astore C.1 C.2.1 hdg hl hn (rv_lv_set (v := .ref x)) (fun ls' hl' => kk ls' hl')) k
theorem re_lstoren {n : Fin 4} {i : Nat} {x : Int64} {lv1 : List (Nat × Value)} (hdg : decode X.2.1 pc = .ok (.lstore_n n, 1)) (hi : (n : Nat) = i) (hn : i + 1 < X.2.2.2.1) (he : (i, .long x) :: lv.filter (fun q => !(q.1 == i) && (!(q.1 == i + 1) && !(q.1 + 1 == i && q.2.category == 2))) = lv1) (k : rv_Ev X d (pc + 1) lv1 st S r S') : rv_Ev X d pc lv (.long x :: st) S r S' := by
  subst he
  exact rv_st1 (fun p l e R s m args below meth c E Q C ad H locs ls n1 n2 hW hS hl kk => lv_lstore_n C.1 C.2.1 hdg hi hl hn (rv_lv_set2 (v := .long x)) (fun ls' hl' => kk ls' hl')) k
theorem re_lstore {i : Nat} {x : Int64} {lv1 : List (Nat × Value)} (hdg : decode X.2.1 pc = .ok (.lstore i, 2)) (hn : i + 1 < X.2.2.2.1) (he : (i, .long x) :: lv.filter (fun q => !(q.1 == i) && (!(q.1 == i + 1) && !(q.1 + 1 == i && q.2.category == 2))) = lv1) (k : rv_Ev X d (pc + 2) lv1 st S r S') : rv_Ev X d pc lv (.long x :: st) S r S' := by
  subst he
  exact rv_st1 (fun p l e R s m args below meth c E Q C ad H locs ls n1 n2 hW hS hl kk => lv_lstore C.1 C.2.1 hdg hl hn (rv_lv_set2 (v := .long x)) (fun ls' hl' => kk ls' hl')) k
theorem re_iinc (q : Nat) {i : Nat} {n : Int} {x : Int32} (v : Int32) {lv1 : List (Nat × Value)} (hdg : decode X.2.1 pc = .ok (.iinc i n, 3)) (hq : lv[q]? = some (i, .int x)) (hv : x + Int32.ofInt n = v) (hn : i < X.2.2.2.1) (he : (i, .int v) :: lv.filter (fun q => !(q.1 == i) && !(q.1 + 1 == i && q.2.category == 2)) = lv1) (k : rv_Ev X d (pc + 3) lv1 st S r S') : rv_Ev X d pc lv st S r S' := by
  subst he
  exact rv_st1 (fun p l e R s m args below meth c E Q C ad H locs ls n1 n2 hW hS hl kk => lv_iinc (k := q) C.1 C.2.1 hdg hl (by simp [rv_lv, hq, rv_cv]) hv hn (rv_lv_set (v := .int v)) (fun ls' hl' => kk ls' hl')) k
theorem re_iadd {x y : Int32} (hdg : decode X.2.1 pc = .ok (.iadd, 1)) (k : rv_Ev X d (pc + 1) lv (.int (x + y) :: st) S r S') : rv_Ev X d pc lv (.int y :: .int x :: st) S r S' :=
  rv_st1 (fun p l e R s m args below meth c E Q C ad H locs ls n1 n2 hW hS hl kk => lv_iadd C.1 C.2.1 hdg (kk ls hl)) k
theorem re_isub {x y : Int32} (hdg : decode X.2.1 pc = .ok (.isub, 1)) (k : rv_Ev X d (pc + 1) lv (.int (x - y) :: st) S r S') : rv_Ev X d pc lv (.int y :: .int x :: st) S r S' :=
  rv_st1 (fun p l e R s m args below meth c E Q C ad H locs ls n1 n2 hW hS hl kk => lv_isub C.1 C.2.1 hdg (kk ls hl)) k
theorem re_imul {x y : Int32} (hdg : decode X.2.1 pc = .ok (.imul, 1)) (k : rv_Ev X d (pc + 1) lv (.int (x * y) :: st) S r S') : rv_Ev X d pc lv (.int y :: .int x :: st) S r S' :=
  rv_st1 (fun p l e R s m args below meth c E Q C ad H locs ls n1 n2 hW hS hl kk => lv_imul C.1 C.2.1 hdg (kk ls hl)) k
theorem re_iand {x y : Int32} (hdg : decode X.2.1 pc = .ok (.iand, 1)) (k : rv_Ev X d (pc + 1) lv (.int (x &&& y) :: st) S r S') : rv_Ev X d pc lv (.int y :: .int x :: st) S r S' :=
  rv_st1 (fun p l e R s m args below meth c E Q C ad H locs ls n1 n2 hW hS hl kk => lv_iand C.1 C.2.1 hdg (kk ls hl)) k
theorem re_ior {x y : Int32} (hdg : decode X.2.1 pc = .ok (.ior, 1)) (k : rv_Ev X d (pc + 1) lv (.int (x ||| y) :: st) S r S') : rv_Ev X d pc lv (.int y :: .int x :: st) S r S' :=
  rv_st1 (fun p l e R s m args below meth c E Q C ad H locs ls n1 n2 hW hS hl kk => lv_ior C.1 C.2.1 hdg (kk ls hl)) k
theorem re_ixor {x y : Int32} (hdg : decode X.2.1 pc = .ok (.ixor, 1)) (k : rv_Ev X d (pc + 1) lv (.int (x ^^^ y) :: st) S r S') : rv_Ev X d pc lv (.int y :: .int x :: st) S r S' :=
  rv_st1 (fun p l e R s m args below meth c E Q C ad H locs ls n1 n2 hW hS hl kk => lv_ixor C.1 C.2.1 hdg (kk ls hl)) k
theorem re_ishl {x y : Int32} (hdg : decode X.2.1 pc = .ok (.ishl, 1)) (k : rv_Ev X d (pc + 1) lv (.int (x <<< (y &&& 31)) :: st) S r S') : rv_Ev X d pc lv (.int y :: .int x :: st) S r S' :=
  rv_st1 (fun p l e R s m args below meth c E Q C ad H locs ls n1 n2 hW hS hl kk => lv_ishl C.1 C.2.1 hdg (kk ls hl)) k
theorem re_ishr {x y : Int32} (hdg : decode X.2.1 pc = .ok (.ishr, 1)) (k : rv_Ev X d (pc + 1) lv (.int (x >>> (y &&& 31)) :: st) S r S') : rv_Ev X d pc lv (.int y :: .int x :: st) S r S' :=
  rv_st1 (fun p l e R s m args below meth c E Q C ad H locs ls n1 n2 hW hS hl kk => lv_ishr C.1 C.2.1 hdg (kk ls hl)) k
theorem re_idiv {x y : Int32} (hdg : decode X.2.1 pc = .ok (.idiv, 1)) (h0 : ¬ y = 0) (k : rv_Ev X d (pc + 1) lv (.int (x / y) :: st) S r S') : rv_Ev X d pc lv (.int y :: .int x :: st) S r S' :=
  rv_st1 (fun p l e R s m args below meth c E Q C ad H locs ls n1 n2 hW hS hl kk => lv_idiv C.1 C.2.1 hdg h0 (kk ls hl)) k
theorem re_irem {x y : Int32} (hdg : decode X.2.1 pc = .ok (.irem, 1)) (h0 : ¬ y = 0) (k : rv_Ev X d (pc + 1) lv (.int (x - x / y * y) :: st) S r S') : rv_Ev X d pc lv (.int y :: .int x :: st) S r S' :=
  rv_st1 (fun p l e R s m args below meth c E Q C ad H locs ls n1 n2 hW hS hl kk => lv_irem C.1 C.2.1 hdg h0 (kk ls hl)) k
theorem re_ineg {x : Int32} (hdg : decode X.2.1 pc = .ok (.ineg, 1)) (k : rv_Ev X d (pc + 1) lv (.int (-x) :: st) S r S') : rv_Ev X d pc lv (.int x :: st) S r S' :=
  rv_st1 (fun p l e R s m args below meth c E Q C ad H locs ls n1 n2 hW hS hl kk => lv_ineg C.1 C.2.1 hdg (kk ls hl)) k
theorem re_iushr {x y : Int32} (hdg : decode X.2.1 pc = .ok (.iushr, 1)) (k : rv_Ev X d (pc + 1) lv (.int ((x.toUInt32 >>> (y.toUInt32 &&& Int32.toUInt32 31)).toInt32) :: st) S r S') : rv_Ev X d pc lv (.int y :: .int x :: st) S r S' :=
  rv_st1 (fun p l e R s m args below meth c E Q C ad H locs ls n1 n2 hW hS hl kk => lv_iushr C.1 C.2.1 hdg rfl (kk ls hl)) k
theorem re_ladd {x y : Int64} (hdg : decode X.2.1 pc = .ok (.ladd, 1)) (k : rv_Ev X d (pc + 1) lv (.long (x + y) :: st) S r S') : rv_Ev X d pc lv (.long y :: .long x :: st) S r S' :=
  rv_st1 (fun p l e R s m args below meth c E Q C ad H locs ls n1 n2 hW hS hl kk => lv_ladd C.1 C.2.1 hdg (kk ls hl)) k
theorem re_lsub {x y : Int64} (hdg : decode X.2.1 pc = .ok (.lsub, 1)) (k : rv_Ev X d (pc + 1) lv (.long (x - y) :: st) S r S') : rv_Ev X d pc lv (.long y :: .long x :: st) S r S' :=
  rv_st1 (fun p l e R s m args below meth c E Q C ad H locs ls n1 n2 hW hS hl kk => lv_lsub C.1 C.2.1 hdg (kk ls hl)) k
theorem re_lmul {x y : Int64} (hdg : decode X.2.1 pc = .ok (.lmul, 1)) (k : rv_Ev X d (pc + 1) lv (.long (x * y) :: st) S r S') : rv_Ev X d pc lv (.long y :: .long x :: st) S r S' :=
  rv_st1 (fun p l e R s m args below meth c E Q C ad H locs ls n1 n2 hW hS hl kk => lv_lmul C.1 C.2.1 hdg (kk ls hl)) k
theorem re_land {x y : Int64} (hdg : decode X.2.1 pc = .ok (.land, 1)) (k : rv_Ev X d (pc + 1) lv (.long (x &&& y) :: st) S r S') : rv_Ev X d pc lv (.long y :: .long x :: st) S r S' :=
  rv_st1 (fun p l e R s m args below meth c E Q C ad H locs ls n1 n2 hW hS hl kk => lv_land C.1 C.2.1 hdg (kk ls hl)) k
theorem re_lor {x y : Int64} (hdg : decode X.2.1 pc = .ok (.lor, 1)) (k : rv_Ev X d (pc + 1) lv (.long (x ||| y) :: st) S r S') : rv_Ev X d pc lv (.long y :: .long x :: st) S r S' :=
  rv_st1 (fun p l e R s m args below meth c E Q C ad H locs ls n1 n2 hW hS hl kk => lv_lor C.1 C.2.1 hdg (kk ls hl)) k
theorem re_lxor {x y : Int64} (hdg : decode X.2.1 pc = .ok (.lxor, 1)) (k : rv_Ev X d (pc + 1) lv (.long (x ^^^ y) :: st) S r S') : rv_Ev X d pc lv (.long y :: .long x :: st) S r S' :=
  rv_st1 (fun p l e R s m args below meth c E Q C ad H locs ls n1 n2 hW hS hl kk => lv_lxor C.1 C.2.1 hdg (kk ls hl)) k
theorem re_lushr {x : Int64} {y : Int32} (hdg : decode X.2.1 pc = .ok (.lushr, 1)) (k : rv_Ev X d (pc + 1) lv (.long ((x.toUInt64 >>> (y.toInt64.toUInt64 &&& Int64.toUInt64 63)).toInt64) :: st) S r S') : rv_Ev X d pc lv (.int y :: .long x :: st) S r S' :=
  rv_st1 (fun p l e R s m args below meth c E Q C ad H locs ls n1 n2 hW hS hl kk => lv_lushr C.1 C.2.1 hdg rfl (kk ls hl)) k
theorem re_lshl {x : Int64} {y : Int32} (hdg : decode X.2.1 pc = .ok (.lshl, 1)) (k : rv_Ev X d (pc + 1) lv (.long (x <<< (y.toInt64 &&& 63)) :: st) S r S') : rv_Ev X d pc lv (.int y :: .long x :: st) S r S' :=
  rv_st1 (fun p l e R s m args below meth c E Q C ad H locs ls n1 n2 hW hS hl kk => lv_lshl C.1 C.2.1 hdg rfl (kk ls hl)) k
theorem re_i2l {x : Int32} (hdg : decode X.2.1 pc = .ok (.i2l, 1)) (k : rv_Ev X d (pc + 1) lv (.long x.toInt64 :: st) S r S') : rv_Ev X d pc lv (.int x :: st) S r S' :=
  rv_st1 (fun p l e R s m args below meth c E Q C ad H locs ls n1 n2 hW hS hl kk => lv_i2l C.1 C.2.1 hdg rfl (kk ls hl)) k
theorem re_l2i {x : Int64} (hdg : decode X.2.1 pc = .ok (.l2i, 1)) (k : rv_Ev X d (pc + 1) lv (.int x.toInt32 :: st) S r S') : rv_Ev X d pc lv (.long x :: st) S r S' :=
  rv_st1 (fun p l e R s m args below meth c E Q C ad H locs ls n1 n2 hW hS hl kk => lv_l2i C.1 C.2.1 hdg rfl (kk ls hl)) k
theorem re_i2b {x : Int32} (hdg : decode X.2.1 pc = .ok (.i2b, 1)) (k : rv_Ev X d (pc + 1) lv (.int x.toInt8.toInt32 :: st) S r S') : rv_Ev X d pc lv (.int x :: st) S r S' :=
  rv_st1 (fun p l e R s m args below meth c E Q C ad H locs ls n1 n2 hW hS hl kk => lv_i2b C.1 C.2.1 hdg rfl (kk ls hl)) k
theorem re_lcmp {x y : Int64} (hdg : decode X.2.1 pc = .ok (.lcmp, 1)) (k : rv_Ev X d (pc + 1) lv (.int (lg_cmp x y) :: st) S r S') : rv_Ev X d pc lv (.long y :: .long x :: st) S r S' :=
  rv_st1 (fun p l e R s m args below meth c E Q C ad H locs ls n1 n2 hW hS hl kk => W.lcmp C.1 C.2.1 hdg (kk ls hl)) k
theorem re_dup {v : Value} (hdg : decode X.2.1 pc = .ok (.dup, 1)) (hc : v.category = 1) (k : rv_Ev X d (pc + 1) lv (v :: v :: st) S r S') : rv_Ev X d pc lv (v :: st) S r S' :=
  rv_st1 (fun p l e R s m args below meth c E Q C ad H locs ls n1 n2 hW hS hl kk => lv_dup C.1 C.2.1 hdg ((rv_cv_cat ad v).trans hc) (kk ls hl)) k
theorem re_pop {v : Value} (hdg : decode X.2.1 pc = .ok (.pop, 1)) (hc : v.category = 1) (k : rv_Ev X d (pc + 1) lv st S r S') : rv_Ev X d pc lv (v :: st) S r S' :=
  rv_st1 (fun p l e R s m args below meth c E Q C ad H locs ls n1 n2 hW hS hl kk => lv_pop C.1 C.2.1 hdg ((rv_cv_cat ad v).trans hc) (kk ls hl)) k
theorem re_dup2 {v u : Value} (hdg : decode X.2.1 pc = .ok (.dup2, 1)) (hc : v.category = 1) (hu : u.category = 1) (k : rv_Ev X d (pc + 1) lv (v :: u :: v :: u :: st) S r S') : rv_Ev X d pc lv (v :: u :: st) S r S' :=
  rv_st1 (fun p l e R s m args below meth c E Q C ad H locs ls n1 n2 hW hS hl kk => lv_dup2_11 C.1 C.2.1 hdg ((rv_cv_cat ad v).trans hc) ((rv_cv_cat ad u).trans hu) (kk ls hl)) k
theorem re_dup_x1 {v u : Value} (hdg : decode X.2.1 pc = .ok (.dup_x1, 1)) (hc : v.category = 1) (hu : u.category = 1) (k : rv_Ev X d (pc + 1) lv (v :: u :: v :: st) S r S') : rv_Ev X d pc lv (v :: u :: st) S r S' :=
  rv_st1 (fun p l e R s m args below meth c E Q C ad H locs ls n1 n2 hW hS hl kk => lv_dup_x1 C.1 C.2.1 hdg ((rv_cv_cat ad v).trans hc) ((rv_cv_cat ad u).trans hu) (kk ls hl)) k
theorem re_goto {off : Int} (tgt : Nat) (hdg : decode X.2.1 pc = .ok (.goto off, 3)) (ht : (pc : Int) + off = (tgt : Int)) (k : rv_Ev X d tgt lv st S r S') : rv_Ev X d pc lv st S r S' :=
  rv_st1 (fun p l e R s m args below meth c E Q C ad H locs ls n1 n2 hW hS hl kk => lv_goto C.1 C.2.1 hdg ht (kk ls hl)) k
theorem re_if_eq_t {x : Int32} (tgt : Nat) {off : Int} (hdg : decode X.2.1 pc = .ok (.ifCond .eq off, 3)) (ht : (pc : Int) + off = (tgt : Int)) (h : x = 0) (k : rv_Ev X d tgt lv st S r S') : rv_Ev X d pc lv (.int x :: st) S r S' :=
  rv_st1 (fun p l e R s m args below meth c E Q C ad H locs ls n1 n2 hW hS hl kk => lv_if_eq C.1 C.2.1 hdg ht (fun _ => kk ls hl) (fun z => absurd h z)) k
theorem re_if_eq_f {x : Int32} (tgt : Nat) {off : Int} (hdg : decode X.2.1 pc = .ok (.ifCond .eq off, 3)) (ht : (pc : Int) + off = (tgt : Int)) (h : ¬ x = 0) (k : rv_Ev X d (pc + 3) lv st S r S') : rv_Ev X d pc lv (.int x :: st) S r S' :=
  rv_st1 (fun p l e R s m args below meth c E Q C ad H locs ls n1 n2 hW hS hl kk => lv_if_eq C.1 C.2.1 hdg ht (fun z => absurd z h) (fun _ => kk ls hl)) k
theorem re_icmp_eq_t {x y : Int32} (tgt : Nat) {off : Int} (hdg : decode X.2.1 pc = .ok (.if_icmp .eq off, 3)) (ht : (pc : Int) + off = (tgt : Int)) (h : x = y) (k : rv_Ev X d tgt lv st S r S') : rv_Ev X d pc lv (.int y :: .int x :: st) S r S' :=
  rv_st1 (fun p l e R s m args below meth c E Q C ad H locs ls n1 n2 hW hS hl kk => lv_icmp_eq C.1 C.2.1 hdg ht (fun _ => kk ls hl) (fun z => absurd h z)) k
theorem re_icmp_eq_f {x y : Int32} (tgt : Nat) {off : Int} (hdg : decode X.2.1 pc = .ok (.if_icmp .eq off, 3)) (ht : (pc : Int) + off = (tgt : Int)) (h : ¬ x = y) (k : rv_Ev X d (pc + 3) lv st S r S') : rv_Ev X d pc lv (.int y :: .int x :: st) S r S' :=
  rv_st1 (fun p l e R s m args below meth c E Q C ad H locs ls n1 n2 hW hS hl kk => lv_icmp_eq C.1 C.2.1 hdg ht (fun z => absurd z h) (fun _ => kk ls hl)) k
theorem re_if_ne_t {x : Int32} (tgt : Nat) {off : Int} (hdg : decode X.2.1 pc = .ok (.ifCond .ne off, 3)) (ht : (pc : Int) + off = (tgt : Int)) (h : ¬ x = 0) (k : rv_Ev X d tgt lv st S r S') : rv_Ev X d pc lv (.int x :: st) S r S' :=
  rv_st1 (fun p l e R s m args below meth c E Q C ad H locs ls n1 n2 hW hS hl kk => lv_if_ne C.1 C.2.1 hdg ht (fun _ => kk ls hl) (fun z => absurd z h)) k
theorem re_if_ne_f {x : Int32} (tgt : Nat) {off : Int} (hdg : decode X.2.1 pc = .ok (.ifCond .ne off, 3)) (ht : (pc : Int) + off = (tgt : Int)) (h : x = 0) (k : rv_Ev X d (pc + 3) lv st S r S') : rv_Ev X d pc lv (.int x :: st) S r S' :=
  rv_st1 (fun p l e R s m args below meth c E Q C ad H locs ls n1 n2 hW hS hl kk => lv_if_ne C.1 C.2.1 hdg ht (fun z => absurd h z) (fun _ => kk ls hl)) k
theorem re_icmp_ne_t {x y : Int32} (tgt : Nat) {off : Int} (hdg : decode X.2.1 pc = .ok (.if_icmp .ne off, 3)) (ht : (pc : Int) + off = (tgt : Int)) (h : ¬ x = y) (k : rv_Ev X d tgt lv st S r S') : rv_Ev X d pc lv (.int y :: .int x :: st) S r S' :=
  rv_st1 (fun p l e R s m args below meth c E Q C ad H locs ls n1 n2 hW hS hl kk => lv_icmp_ne C.1 C.2.1 hdg ht (fun _ => kk ls hl) (fun z => absurd z h)) k
theorem re_icmp_ne_f {x y : Int32} (tgt : Nat) {off : Int} (hdg : decode X.2.1 pc = .ok (.if_icmp .ne off, 3)) (ht : (pc : Int) + off = (tgt : Int)) (h : x = y) (k : rv_Ev X d (pc + 3) lv st S r S') : rv_Ev X d pc lv (.int y :: .int x :: st) S r S' :=
  rv_st1 (fun p l e R s m args below meth c E Q C ad H locs ls n1 n2 hW hS hl kk => lv_icmp_ne C.1 C.2.1 hdg ht (fun z => absurd h z) (fun _ => kk ls hl)) k
theorem re_if_lt_t {x : Int32} (tgt : Nat) {off : Int} (hdg : decode X.2.1 pc = .ok (.ifCond .lt off, 3)) (ht : (pc : Int) + off = (tgt : Int)) (h : x < 0) (k : rv_Ev X d tgt lv st S r S') : rv_Ev X d pc lv (.int x :: st) S r S' :=
  rv_st1 (fun p l e R s m args below meth c E Q C ad H locs ls n1 n2 hW hS hl kk => lv_if_lt C.1 C.2.1 hdg ht (fun _ => kk ls hl) (fun z => absurd h z)) k
theorem re_if_lt_f {x : Int32} (tgt : Nat) {off : Int} (hdg : decode X.2.1 pc = .ok (.ifCond .lt off, 3)) (ht : (pc : Int) + off = (tgt : Int)) (h : ¬ x < 0) (k : rv_Ev X d (pc + 3) lv st S r S') : rv_Ev X d pc lv (.int x :: st) S r S' :=
  rv_st1 (fun p l e R s m args below meth c E Q C ad H locs ls n1 n2 hW hS hl kk => lv_if_lt C.1 C.2.1 hdg ht (fun z => absurd z h) (fun _ => kk ls hl)) k
theorem re_icmp_lt_t {x y : Int32} (tgt : Nat) {off : Int} (hdg : decode X.2.1 pc = .ok (.if_icmp .lt off, 3)) (ht : (pc : Int) + off = (tgt : Int)) (h : x < y) (k : rv_Ev X d tgt lv st S r S') : rv_Ev X d pc lv (.int y :: .int x :: st) S r S' :=
  rv_st1 (fun p l e R s m args below meth c E Q C ad H locs ls n1 n2 hW hS hl kk => lv_icmp_lt C.1 C.2.1 hdg ht (fun _ => kk ls hl) (fun z => absurd h z)) k
theorem re_icmp_lt_f {x y : Int32} (tgt : Nat) {off : Int} (hdg : decode X.2.1 pc = .ok (.if_icmp .lt off, 3)) (ht : (pc : Int) + off = (tgt : Int)) (h : ¬ x < y) (k : rv_Ev X d (pc + 3) lv st S r S') : rv_Ev X d pc lv (.int y :: .int x :: st) S r S' :=
  rv_st1 (fun p l e R s m args below meth c E Q C ad H locs ls n1 n2 hW hS hl kk => lv_icmp_lt C.1 C.2.1 hdg ht (fun z => absurd z h) (fun _ => kk ls hl)) k
theorem re_if_ge_t {x : Int32} (tgt : Nat) {off : Int} (hdg : decode X.2.1 pc = .ok (.ifCond .ge off, 3)) (ht : (pc : Int) + off = (tgt : Int)) (h : 0 ≤ x) (k : rv_Ev X d tgt lv st S r S') : rv_Ev X d pc lv (.int x :: st) S r S' :=
  rv_st1 (fun p l e R s m args below meth c E Q C ad H locs ls n1 n2 hW hS hl kk => lv_if_ge C.1 C.2.1 hdg ht (fun _ => kk ls hl) (fun z => absurd h z)) k
theorem re_if_ge_f {x : Int32} (tgt : Nat) {off : Int} (hdg : decode X.2.1 pc = .ok (.ifCond .ge off, 3)) (ht : (pc : Int) + off = (tgt : Int)) (h : ¬ 0 ≤ x) (k : rv_Ev X d (pc + 3) lv st S r S') : rv_Ev X d pc lv (.int x :: st) S r S' :=
  rv_st1 (fun p l e R s m args below meth c E Q C ad H locs ls n1 n2 hW hS hl kk => lv_if_ge C.1 C.2.1 hdg ht (fun z => absurd z h) (fun _ => kk ls hl)) k
theorem re_icmp_ge_t {x y : Int32} (tgt : Nat) {off : Int} (hdg : decode X.2.1 pc = .ok (.if_icmp .ge off, 3)) (ht : (pc : Int) + off = (tgt : Int)) (h : y ≤ x) (k : rv_Ev X d tgt lv st S r S') : rv_Ev X d pc lv (.int y :: .int x :: st) S r S' :=
  rv_st1 (fun p l e R s m args below meth c E Q C ad H locs ls n1 n2 hW hS hl kk => lv_icmp_ge C.1 C.2.1 hdg ht (fun _ => kk ls hl) (fun z => absurd h z)) k
theorem re_icmp_ge_f {x y : Int32} (tgt : Nat) {off : Int} (hdg : decode X.2.1 pc = .ok (.if_icmp .ge off, 3)) (ht : (pc : Int) + off = (tgt : Int)) (h : ¬ y ≤ x) (k : rv_Ev X d (pc + 3) lv st S r S') : rv_Ev X d pc lv (.int y :: .int x :: st) S r S' :=
  rv_st1 (fun p l e R s m args below meth c E Q C ad H locs ls n1 n2 hW hS hl kk => lv_icmp_ge C.1 C.2.1 hdg ht (fun z => absurd z h) (fun _ => kk ls hl)) k
theorem re_if_gt_t {x : Int32} (tgt : Nat) {off : Int} (hdg : decode X.2.1 pc = .ok (.ifCond .gt off, 3)) (ht : (pc : Int) + off = (tgt : Int)) (h : 0 < x) (k : rv_Ev X d tgt lv st S r S') : rv_Ev X d pc lv (.int x :: st) S r S' :=
  rv_st1 (fun p l e R s m args below meth c E Q C ad H locs ls n1 n2 hW hS hl kk => lv_if_gt C.1 C.2.1 hdg ht (fun _ => kk ls hl) (fun z => absurd h z)) k
theorem re_if_gt_f {x : Int32} (tgt : Nat) {off : Int} (hdg : decode X.2.1 pc = .ok (.ifCond .gt off, 3)) (ht : (pc : Int) + off = (tgt : Int)) (h : ¬ 0 < x) (k : rv_Ev X d (pc + 3) lv st S r S') : rv_Ev X d pc lv (.int x :: st) S r S' :=
  rv_st1 (fun p l e R s m args below meth c E Q C ad H locs ls n1 n2 hW hS hl kk => lv_if_gt C.1 C.2.1 hdg ht (fun z => absurd z h) (fun _ => kk ls hl)) k
theorem re_icmp_gt_t {x y : Int32} (tgt : Nat) {off : Int} (hdg : decode X.2.1 pc = .ok (.if_icmp .gt off, 3)) (ht : (pc : Int) + off = (tgt : Int)) (h : y < x) (k : rv_Ev X d tgt lv st S r S') : rv_Ev X d pc lv (.int y :: .int x :: st) S r S' :=
  rv_st1 (fun p l e R s m args below meth c E Q C ad H locs ls n1 n2 hW hS hl kk => lv_icmp_gt C.1 C.2.1 hdg ht (fun _ => kk ls hl) (fun z => absurd h z)) k
theorem re_icmp_gt_f {x y : Int32} (tgt : Nat) {off : Int} (hdg : decode X.2.1 pc = .ok (.if_icmp .gt off, 3)) (ht : (pc : Int) + off = (tgt : Int)) (h : ¬ y < x) (k : rv_Ev X d (pc + 3) lv st S r S') : rv_Ev X d pc lv (.int y :: .int x :: st) S r S' :=
  rv_st1 (fun p l e R s m args below meth c E Q C ad H locs ls n1 n2 hW hS hl kk => lv_icmp_gt C.1 C.2.1 hdg ht (fun z => absurd z h) (fun _ => kk ls hl)) k
theorem re_if_le_t {x : Int32} (tgt : Nat) {off : Int} (hdg : decode X.2.1 pc = .ok (.ifCond .le off, 3)) (ht : (pc : Int) + off = (tgt : Int)) (h : x ≤ 0) (k : rv_Ev X d tgt lv st S r S') : rv_Ev X d pc lv (.int x :: st) S r S' :=
  rv_st1 (fun p l e R s m args below meth c E Q C ad H locs ls n1 n2 hW hS hl kk => lv_if_le C.1 C.2.1 hdg ht (fun _ => kk ls hl) (fun z => absurd h z)) k
theorem re_if_le_f {x : Int32} (tgt : Nat) {off : Int} (hdg : decode X.2.1 pc = .ok (.ifCond .le off, 3)) (ht : (pc : Int) + off = (tgt : Int)) (h : ¬ x ≤ 0) (k : rv_Ev X d (pc + 3) lv st S r S') : rv_Ev X d pc lv (.int x :: st) S r S' :=
  rv_st1 (fun p l e R s m args below meth c E Q C ad H locs ls n1 n2 hW hS hl kk => lv_if_le C.1 C.2.1 hdg ht (fun z => absurd z h) (fun _ => kk ls hl)) k
theorem re_icmp_le_t {x y : Int32} (tgt : Nat) {off : Int} (hdg : decode X.2.1 pc = .ok (.if_icmp .le off, 3)) (ht : (pc : Int) + off = (tgt : Int)) (h : x ≤ y) (k : rv_Ev X d tgt lv st S r S') : rv_Ev X d pc lv (.int y :: .int x :: st) S r S' :=
  rv_st1 (fun p l e R s m args below meth c E Q C ad H locs ls n1 n2 hW hS hl kk => lv_icmp_le C.1 C.2.1 hdg ht (fun _ => kk ls hl) (fun z => absurd h z)) k
theorem re_icmp_le_f {x y : Int32} (tgt : Nat) {off : Int} (hdg : decode X.2.1 pc = .ok (.if_icmp .le off, 3)) (ht : (pc : Int) + off = (tgt : Int)) (h : ¬ x ≤ y) (k : rv_Ev X d (pc + 3) lv st S r S') : rv_Ev X d pc lv (.int y :: .int x :: st) S r S' :=
  rv_st1 (fun p l e R s m args below meth c E Q C ad H locs ls n1 n2 hW hS hl kk => lv_icmp_le C.1 C.2.1 hdg ht (fun z => absurd z h) (fun _ => kk ls hl)) k
theorem re_tabOut {dflt lo hi : Int} {offs : Array Int} {len : Nat} {x : Int32} (tgt : Nat) (hdg : decode X.2.1 pc = .ok (.tableswitch dflt lo hi offs, len)) (h : x.toInt < lo ∨ hi < x.toInt) (ht : (pc : Int) + dflt = (tgt : Int)) (k : rv_Ev X d tgt lv st S r S') : rv_Ev X d pc lv (.int x :: st) S r S' :=
  rv_st1 (fun p l e R s m args below meth c E Q C ad H locs ls n1 n2 hW hS hl kk => lv_tableOut C.1 C.2.1 hdg h ht (kk ls hl)) k
theorem re_tabIn {dflt lo hi : Int} {offs : Array Int} {len : Nat} {x : Int32} {off : Int} (tgt : Nat) (hdg : decode X.2.1 pc = .ok (.tableswitch dflt lo hi offs, len)) (h1 : ¬ x.toInt < lo) (h2 : ¬ hi < x.toInt) (ho : offs[(x.toInt - lo).toNat]? = some off) (ht : (pc : Int) + off = (tgt : Int)) (k : rv_Ev X d tgt lv st S r S') : rv_Ev X d pc lv (.int x :: st) S r S' :=
  rv_st1 (fun p l e R s m args below meth c E Q C ad H locs ls n1 n2 hW hS hl kk => lv_tableIn C.1 C.2.1 hdg h1 h2 ho ht (kk ls hl)) k
theorem re_lookup {dflt : Int} {ps : Array (Int × Int)} {len : Nat} {x : Int32} {off : Int} (tgt : Nat) (hdg : decode X.2.1 pc = .ok (.lookupswitch dflt ps, len)) (hp : (ps.toList.zip (ps.toList.drop 1)).all (fun (a, next) => a.1 < next.1) = true) (ho : Op.lookupswitch.offset ps.toList dflt x.toInt = off) (ht : (pc : Int) + off = (tgt : Int)) (k : rv_Ev X d tgt lv st S r S') : rv_Ev X d pc lv (.int x :: st) S r S' :=
  rv_st1 (fun p l e R s m args below meth c E Q C ad H locs ls n1 n2 hW hS hl kk => lv_lookup C.1 C.2.1 hdg hp ho ht (kk ls hl)) k
theorem re_acmp_eq_t {a b : Nat} (ha : a < 23) (hb : b < 23) (tgt : Nat) {off : Int} (hdg : decode X.2.1 pc = .ok (.if_acmp .eq off, 3)) (ht : (pc : Int) + off = (tgt : Int)) (h : a = b) (k : rv_Ev X d tgt lv st S r S') : rv_Ev X d pc lv (.ref b :: .ref a :: st) S r S' :=
  rv_st1 (fun p l e R s m args below meth c E Q C ad H locs ls n1 n2 hW hS hl kk => lv_acmp_eq (rx := some (ad a)) (ry := some (ad b)) C.1 C.2.1 hdg ht (fun _ => kk ls hl) (fun z => absurd (congrArg some (congrArg ad h)) z)) k
theorem re_acmp_eq_f {a b : Nat} (ha : a < 23) (hb : b < 23) (tgt : Nat) {off : Int} (hdg : decode X.2.1 pc = .ok (.if_acmp .eq off, 3)) (ht : (pc : Int) + off = (tgt : Int)) (h : ¬ a = b) (k : rv_Ev X d (pc + 3) lv st S r S') : rv_Ev X d pc lv (.ref b :: .ref a :: st) S r S' :=
  rv_st1 (fun p l e R s m args below meth c E Q C ad H locs ls n1 n2 hW hS hl kk => lv_acmp_eq (rx := some (ad a)) (ry := some (ad b)) C.1 C.2.1 hdg ht (fun z => absurd z (fun z => h (C.2.2.2.2.2.2.2.2.1.2.2.1.1.2 a b ha hb (by have z1 := Option.some.inj z; rw [hW.2.2.1 a (by omega), hW.2.2.1 b (by omega)] at z1; exact z1)))) (fun _ => kk ls hl)) k
theorem re_acmp_ne_t {a b : Nat} (ha : a < 23) (hb : b < 23) (tgt : Nat) {off : Int} (hdg : decode X.2.1 pc = .ok (.if_acmp .ne off, 3)) (ht : (pc : Int) + off = (tgt : Int)) (h : ¬ a = b) (k : rv_Ev X d tgt lv st S r S') : rv_Ev X d pc lv (.ref b :: .ref a :: st) S r S' :=
  rv_st1 (fun p l e R s m args below meth c E Q C ad H locs ls n1 n2 hW hS hl kk => lv_acmp_ne (rx := some (ad a)) (ry := some (ad b)) C.1 C.2.1 hdg ht (fun _ => kk ls hl) (fun z => absurd z (fun z => h (C.2.2.2.2.2.2.2.2.1.2.2.1.1.2 a b ha hb (by have z1 := Option.some.inj z; rw [hW.2.2.1 a (by omega), hW.2.2.1 b (by omega)] at z1; exact z1))))) k
theorem re_acmp_ne_f {a b : Nat} (ha : a < 23) (hb : b < 23) (tgt : Nat) {off : Int} (hdg : decode X.2.1 pc = .ok (.if_acmp .ne off, 3)) (ht : (pc : Int) + off = (tgt : Int)) (h : a = b) (k : rv_Ev X d (pc + 3) lv st S r S') : rv_Ev X d pc lv (.ref b :: .ref a :: st) S r S' :=
  rv_st1 (fun p l e R s m args below meth c E Q C ad H locs ls n1 n2 hW hS hl kk => lv_acmp_ne (rx := some (ad a)) (ry := some (ad b)) C.1 C.2.1 hdg ht (fun z => absurd (congrArg some (congrArg ad h)) z) (fun _ => kk ls hl)) k
end RVR
