/-! CONTRACTS: what rv_Ev says of a method's body, as a contract; calls of a method that has one -/
def rv_nar (X : rvM) (r : Option Value) : Prop := ∀ (ty : FieldType) (v : Int32), X.2.2.1 = some ty → r = some (.int v) → narrow ty (.int v) = .int v
def rv_Ok (ad : Nat → Nat) (S S' : rvS) (ad' : Nat → Nat) : Prop := (∀ i, i < 64 + S.1.length → ad' i = ad i) ∧ (S'.1.length = S.1.length → ad' = ad)
def rv_Q (E : rvE) (ad : Nat → Nat) (S : rvS) (r : Option Value) (S' : rvS) : Array Value → State → Outcome → State → Prop := match r with
  | none => va_Qv (fun ad' : Nat → Nat => rv_Ok ad S S' ad') (fun ad' t => rv_Wd E ad' S' t.heap) (rv_A E)
  | some (.int v) => va_Qi (fun x (ad' : Nat → Nat) => x = v ∧ rv_Ok ad S S' ad') (fun ad' t => rv_Wd E ad' S' t.heap) (rv_A E)
  | some (.long v) => va_Ql (fun x (ad' : Nat → Nat) => x = v ∧ rv_Ok ad S S' ad') (fun ad' t => rv_Wd E ad' S' t.heap) (rv_A E)
  | some (.ref k) => va_Qr (fun ad' : Nat → Nat => rv_Ok ad S S' ad') (fun ad' a t => a = ad' k ∧ rv_Wd E ad' S' t.heap) (rv_A E)
  | _ => fun _ _ _ _ => False
def rv_ws (y : MethodName) (X : rvM) : List Cond := .code y X.2.1 X.2.2.2.1 X.2.2.1 :: rv_wN
def rv_rm (d : Nat) (S S' : rvS) : Room := { frames := d, cells := rv_len S' - rv_len S, slots := rv_sz S' - rv_sz S, locals := 64 * d }
def rv_Pc (E : rvE) (ad : Nat → Nat) (sz : Nat) (S : rvS) (As : List Value) : Array Value → State → Prop := va_Pc (As.map (rv_cv ad)) (fun U => U.heap.size = sz ∧ rv_Env E U ∧ rv_Wd E ad S U.heap)
def rv_Met (y : MethodName) (X : rvM) (d : Nat) (As : List Value) (S : rvS) (r : Option Value) (S' : rvS) : Prop :=
  rv_up X.2.2.2.2.2.1 S S' ∧ rv_nar X r ∧ ∀ (l : Launch) (E : rvE) (ad : Nat → Nat) (sz : Nat), l.stackTraces = false → Met l y (rv_ws y X) (rv_rm d S S') (rv_Pc E ad sz S As) (rv_Q E ad S r S') (rv_len S' - rv_len S) (rv_sz S' - rv_sz S) (rv_A E)
theorem rv_args (ad : Nat → Nat) : ∀ (i : Nat) (As : List Value), lv_args i (As.map (rv_cv ad)) = rv_lv ad (lv_args i As)
  | _, [] => rfl
  | i, v :: vs => by
    simp only [List.map_cons, lv_args, rv_lv, rv_cv_cat]
    rw [rv_args ad _ vs]
theorem rv_sl (ad : Nat → Nat) (As : List Value) : (lg_sl (As.map (rv_cv ad))).length = (lg_sl As).length := by
  induction As with
  | nil => rfl
  | cons v vs ih =>
    simp only [lg_sl, List.map_cons, List.flatMap_cons, List.length_append, rv_cv_cat] at ih ⊢
    rw [ih]
    split <;> rfl
def rv_fit (t : Option FieldType) (r : Option Value) : Bool := match t, r with
  | none, none => true
  | some .long, some (.long _) => true
  | some (.object _), some (.ref _) => true
  | some .int, some (.int _) => true
  | some .boolean, some (.int _) => true
  | _, _ => false
theorem rv_Met.of {y : MethodName} {X : rvM} {d : Nat} {As : List Value} {S S' : rvS} {r : Option Value} (hy : plainName y.cls = true ∧ X.1 = y.cls ∧ (X.2.2.2.2.1 = true → y.name = "<init>") ∧ X.2.2.2.2.2.2 = none) (hn : (lg_sl As).length ≤ X.2.2.2.1) (hfit : rv_fit X.2.2.1 r = true) (h : rv_Ev X d 0 (lv_args 0 As) [] S r S') : rv_Met y X d As S r S' := by
  obtain ⟨hup, pcr, lvr, hgo, hdr, hnar⟩ := h
  refine ⟨hup, hnar, fun l E ad sz hst => ?_⟩
  refine Met.ofW (cc := X.2.1) (maxL := X.2.2.2.1) (ret := X.2.2.1) hy.1 rfl ?_
  intro p e s m args below meth c s₁ B hml hv
  obtain ⟨rfl, hsz, hEnv, hW⟩ := hv
  have hts := atoms_spec (ws := rv_ws y X) B.pre
  have hnm := name_of_methodNamed B.named B.method
  have C : rv_Cx X d p l (rv_rm d S S') s m (As.map (rv_cv ad)).toArray meth c E := ⟨B.exec, B.bytes, B.returns, hml, by rw [hy.2.1]; exact findClass_of_methodNamed B.named, fun w hw => hts w (List.mem_cons_of_mem _ hw), B.notSynchronized, fun z => by rw [hnm.1]; exact hy.2.2.1 z, hEnv, Nat.le_refl _, Nat.le_refl _, (fun q hq => by rw [hy.2.2.2] at hq; cases hq), hst⟩
  have hl := lv_entry (As.map (rv_cv ad)) (n := X.2.2.2.1) (by rw [rv_sl]; exact hn)
  rw [rv_args] at hl
  rw [lg_entry_eq]
  refine hgo p l e (rv_rm d S S') s m _ below meth c E _ C ad s.heap [] _ 0 0 hW va_S.rf hl (by have := hup.2.2.1; show 0 + rv_len S' ≤ (rv_len S' - rv_len S) + rv_len S; omega) (by have := hup.2.2.2; show 0 + rv_sz S' ≤ (rv_sz S' - rv_sz S) + rv_sz S; omega) (fun ad' H' locs' ls' m1 m2 g1 g0 g2 g3 g4 g5 g6 => ?_)
  have e1 : m1 = rv_len S' - rv_len S := by omega
  have e2 : m2 = rv_sz S' - rv_sz S := by omega
  subst e1; subst e2
  have hok : rv_Ok ad S S' ad' := ⟨g1, g0⟩
  have hr := B.returns
  cases r with
  | none =>
    cases hX : X.2.2.1 with
    | none => exact W.vret C.1 C.2.1 (hr.trans hX) (fun t ht hWt => ⟨⟨ad', rfl, hok, by show rv_Wd E ad' S' t.heap; rw [ht]; exact g2⟩, g3.F ht⟩) g3.2.2 hdr B.notSynchronized
    | some ty => rw [hX] at hfit; cases ty <;> cases hfit
  | some v =>
    cases hX : X.2.2.1 with
    | none => rw [hX] at hfit; cases v <;> cases hfit
    | some ty =>
      cases v with
      | int v => exact W.zret C.1 C.2.1 (hr.trans hX) (hnar ty v hX rfl) (fun t ht hWt => ⟨⟨v, ad', rfl, ⟨rfl, hok⟩, by show rv_Wd E ad' S' t.heap; rw [ht]; exact g2⟩, g3.F ht⟩) g3.2.2 hdr B.notSynchronized
      | long v =>
        rw [hX] at hfit
        cases ty <;> first | exact W.lret C.1 C.2.1 (hr.trans hX) (fun t ht hWt => ⟨⟨v, ad', rfl, ⟨rfl, hok⟩, by show rv_Wd E ad' S' t.heap; rw [ht]; exact g2⟩, g3.F ht⟩) g3.2.2 hdr B.notSynchronized | cases hfit
      | ref k =>
        rw [hX] at hfit
        cases ty <;> first | exact W.aret C.1 C.2.1 (hr.trans hX) (Or.inl ⟨_, rfl⟩) (Or.inr ⟨_, rfl⟩) (fun t ht hWt => ⟨⟨ad', ad' k, rfl, hok, rfl, by show rv_Wd E ad' S' t.heap; rw [ht]; exact g2⟩, g3.F ht⟩) g3.2.2 hdr B.notSynchronized | cases hfit
      | _ => rw [hX] at hfit; cases ty <;> cases hfit
section RVK
variable {X : rvM} {d pc : Nat} {lv : List (Nat × Value)} {st : List Value} {S S' : rvS} {r : Option Value}
theorem rv_blind {E : rvE} {ad : Nat → Nat} {sz : Nat} {As : List Value} : FrameBlind (rv_Pc E ad sz S As) := fun a U g mk q => by
  obtain ⟨q0, q1, q2, q3⟩ := q
  exact ⟨q0, q1, rv_Env.moved (u := U) (U := U.calling g mk a) (State.WarmedH.refl U) (Nat.le_refl _) (fun _ _ _ => rfl) q2, q3⟩
theorem rv_pre {E : rvE} {ad : Nat → Nat} {As : List Value} {s : State} {H : Heap} {locs : List Loc} (hE : rv_Env E s) (hS : va_S (rv_A E) s.heap H locs) (hW : rv_Wd E ad S H) : ∀ U : State, U.heap = H → s.WarmedH U.vm → rv_Pc E ad H.size S As (As.map (rv_cv ad)).toArray U := fun U hU hWm => ⟨rfl, by rw [hU], rv_Env.moved hWm (by rw [hU]; exact hS.1) (fun q h1 h2 => by rw [hU]; exact hS.2.1 q h1 h2) hE, by rw [hU]; exact hW⟩
/-- what is left when a call is back -/
def rv_Bk (X : rvM) (d : Nat) (pc : Nat) (lv : List (Nat × Value)) (st0 : List Value) (S : rvS) (v : Option Value) (st : List Value) (S1 : rvS) : Prop := rv_Go X d pc lv st0 S (pc + 3) lv (v.toList ++ st) S1
def rv_okl (lv : List (Nat × Value)) (st : List Value) (S S1 : rvS) : Prop := (∀ (ad ad' : Nat → Nat), rv_Ok ad S S1 ad' → rv_lv ad' lv = rv_lv ad lv) ∧ (∀ (ad ad' : Nat → Nat), rv_Ok ad S S1 ad' → st.map (rv_cv ad') = st.map (rv_cv ad))
theorem rv_okl.k {S1 : rvS} (h : rv_same S S1) : rv_okl lv st S S1 := ⟨fun ad ad' ho => by rw [ho.2 (by rw [h.1])], fun ad ad' ho => by rw [ho.2 (by rw [h.1])]⟩
theorem rv_okl.n {S1 : rvS} (hlv : ∀ q ∈ lv, rv_okv S q.2) (hst : ∀ v ∈ st, rv_okv S v) : rv_okl lv st S S1 := ⟨fun ad ad' ho => rv_lv_ok ho.1 hlv, fun ad ad' ho => rv_st_ok ho.1 hst⟩
theorem rv_run {y : MethodName} {Y : rvM} {As st0 : List Value} {v : Option Value} {S1 : rvS} (hok : rv_okl lv st S S1) (hup : rv_up true S S1)
    (h : ∀ (p : Program) (l : Launch) (e : Env) (R : Room) (s : State) (m : MethodId) (args : Array Value) (below : List Frame) (meth : Method) (c : Code) (E : rvE), rv_Cx X d p l R s m args meth c E → ∀ (ad : Nat → Nat) (H : Heap) (locs : List Loc) (ls : Array Slot) (n1 n2 : Nat), rv_Wd E ad S H → va_S (rv_A E) s.heap H locs → ls.size = X.2.2.2.1 → n1 + (rv_len S1 - rv_len S) ≤ R.cells → n2 + (rv_sz S1 - rv_sz S) ≤ R.slots →
      va_Run p l e R s m args below meth c H locs n1 n2 (rv_len S1 - rv_len S) (rv_sz S1 - rv_sz S) (F0 m pc ls (st0.map (rv_cv ad))) (st.map (rv_cv ad)) (rv_Q E ad S v S1 (As.map (rv_cv ad)).toArray) (rv_A E)) : rv_Go X d pc lv st0 S (pc + 3) lv (v.toList ++ st) S1 := by
  intro p l e R s m args below meth c E Q C ad H locs ls n1 n2 hW hS hl b1 b2 kk
  have u1 := hup.2.2.1
  have u2 := hup.2.2.2
  have hr := h p l e R s m args below meth c E C ad H locs ls n1 n2 hW hS hl.1 (by omega) (by omega)
  have fin : ∀ (ad' : Nat → Nat) (t : State) (H1 : Heap) (locs1 : List Loc), rv_Ok ad S S1 ad' → t.heap = H1 → rv_Wd E ad' S1 t.heap → va_S (rv_A E) s.heap H1 locs1 → W p l e R s m args below meth c H1 locs1 (n1 + (rv_len S1 - rv_len S)) (n2 + (rv_sz S1 - rv_sz S)) Q (F0 m (pc + 3) ls ((v.toList ++ st).map (rv_cv ad'))) := fun ad' t H1 locs1 ho ht hW1 hS1 => by
    rw [ht] at hW1
    exact kk ad' H1 locs1 ls _ _ ho.1 ho.2 hW1 hS1 (by rw [hok.1 ad ad' ho]; exact hl) (by omega) (by omega)
  cases v with
  | none => exact va_callv (a := (As.map (rv_cv ad)).toArray) hr hS (fun _ _ h => h) (fun _ h => h) (fun ad' t H1 locs1 ht _ ho hW1 _ _ hS1 => by have := fin ad' t H1 locs1 ho ht hW1 hS1; simp only [Option.toList, List.nil_append, hok.2 ad ad' ho] at this; exact this)
  | some v =>
    cases v with
    | int x => exact va_calli (a := (As.map (rv_cv ad)).toArray) hr hS (fun _ _ h => h) (fun _ h => h) (fun z ad' t H1 locs1 ht _ ho hW1 _ _ hS1 => by have := fin ad' t H1 locs1 ho.2 ht hW1 hS1; rw [ho.1]; simp only [Option.toList, List.cons_append, List.nil_append, List.map_cons, rv_cv, hok.2 ad ad' ho.2] at this; exact this)
    | long x => exact va_calll (a := (As.map (rv_cv ad)).toArray) hr hS (fun _ _ h => h) (fun _ h => h) (fun z ad' t H1 locs1 ht _ ho hW1 _ _ hS1 => by have := fin ad' t H1 locs1 ho.2 ht hW1 hS1; rw [ho.1]; simp only [Option.toList, List.cons_append, List.nil_append, List.map_cons, rv_cv, hok.2 ad ad' ho.2] at this; exact this)
    | ref x => exact va_callr (a := (As.map (rv_cv ad)).toArray) hr hS (fun _ _ h => h) (fun _ h => h) (fun ad' a t H1 locs1 ht _ ho hW1 _ _ hS1 => by have := fin ad' t H1 locs1 ho ht hW1.2 hS1; rw [hW1.1]; simp only [Option.toList, List.cons_append, List.nil_append, List.map_cons, rv_cv, hok.2 ad ad' ho] at this; exact this)
    | _ =>
      intro T hT Xs
      obtain ⟨_, _, _, _, _, _, _, _, _, _, hq, _⟩ := hr T hT Xs
      exact hq.elim
/-- how a method is reached by an entry of a class's pool -/
def rv_LV (own : String) (ix : Nat) (y : MethodName) (Y : rvM) (n : Nat) : Prop := (Cond.code y Y.2.1 Y.2.2.2.1 Y.2.2.1 ∈ rv_wN ∧ Cond.instanceMethod y ∈ rv_wN ∧ Cond.selects y.cls y y ∈ rv_wN ∧ Cond.initialized y.cls ∈ rv_wN ∧ (Cond.methodLink own ix y ∈ rv_wN ∨ ∃ host, Cond.methodLinkNest own ix y host ∈ lw_tbl)) ∧ (y.cls ≠ "java/lang/invoke/MethodHandle" ∧ y.cls ≠ "java/lang/invoke/VarHandle" ∧ (parseMethodDescriptor y.desc).map (fun d => d.parameters.length) = some n) ∧ Y.2.2.2.1 + 19 ≤ 64
def rv_LS (own : String) (ix : Nat) (y : MethodName) (Y : rvM) (n : Nat) : Prop := (Cond.code y Y.2.1 Y.2.2.2.1 Y.2.2.1 ∈ rv_wN ∧ Cond.static y ∈ rv_wN ∧ Cond.initialized y.cls ∈ rv_wN ∧ (Cond.methodLink own ix y ∈ rv_wN ∨ ∃ host, Cond.methodLinkNest own ix y host ∈ lw_tbl)) ∧ (y.cls ≠ "java/lang/invoke/MethodHandle" ∧ y.cls ≠ "java/lang/invoke/VarHandle" ∧ (parseMethodDescriptor y.desc).map (fun d => d.parameters.length) = some n) ∧ Y.2.2.2.1 + 19 ≤ 64
def rv_LI (own : String) (ix : Nat) (y : MethodName) (Y : rvM) (n : Nat) : Prop := (Cond.code y Y.2.1 Y.2.2.2.1 Y.2.2.1 ∈ rv_wN ∧ Cond.instanceMethod y ∈ rv_wN ∧ Cond.initialized y.cls ∈ rv_wN ∧ (Cond.methodLink own ix y ∈ rv_wN ∨ ∃ host, Cond.methodLinkNest own ix y host ∈ lw_tbl)) ∧ (y.cls ≠ "java/lang/invoke/MethodHandle" ∧ y.cls ≠ "java/lang/invoke/VarHandle" ∧ (parseMethodDescriptor y.desc).map (fun d => d.parameters.length) = some n) ∧ Y.2.2.2.1 + 19 ≤ 64 ∧ y.name = "<init>" ∧ Y.2.2.1 = none
theorem rv_good {y : MethodName} {Y : rvM} (h : Cond.code y Y.2.1 Y.2.2.2.1 Y.2.2.1 ∈ rv_wN) : GoodIn rv_wN (rv_ws y Y) := fun w hw => by
  rcases List.mem_cons.mp hw with rfl | hw
  · exact rv_wN_good _ h
  · exact rv_wN_good _ hw
theorem rv_goV {y : MethodName} {Y : rvM} {ix a c n0 d0 : Nat} {As : List Value} {v : Option Value} {S1 : rvS} (hok : rv_okl lv st S S1) (hM : rv_Met y Y d0 (.ref a :: As) S v S1) (hd : d0 < d) (hf : rv_is S a (c, n0)) (hc : c < 12 ∧ rv_R c = y.cls) (hw : (st.map fun v => v.category).sum ≤ 8) (hL : rv_LV X.1 ix y Y As.length) (hdg : decode X.2.1 pc = .ok (.invokevirtual ix, 3)) : rv_Go X d pc lv (As.reverse ++ .ref a :: st) S (pc + 3) lv (v.toList ++ st) S1 := by
  obtain ⟨hup, hnar, hMet⟩ := hM
  obtain ⟨⟨l1, l2, l3, l4, l5⟩, hy, hml⟩ := hL
  refine rv_run (y := y) (Y := Y) (As := .ref a :: As) hok ⟨(fun h => by cases h), hup.2⟩ (fun p l e R s m args below meth c0 E C ad H locs ls n1 n2 hW hS hls b1 b2 => ?_)
  have hp : PreV s H y.cls (ad a) (rv_Pc E ad H.size S (.ref a :: As)) (As.map (rv_cv ad)) := ⟨rv_blind, by
    have := va_recv C.2.2.2.2.2.2.2.2.1.1 hW.1 (rv_cl hc.1) (by have := rv_W_get (aC := E.2.1) (ad := ad) hf; rw [rv_cellO hc.1] at this; exact this)
    rw [← hc.2]; exact this, rv_pre C.2.2.2.2.2.2.2.2.1 hS hW⟩
  have hstk : (As.reverse ++ Value.ref a :: st).map (rv_cv ad) = (As.map (rv_cv ad)).reverse ++ Value.ref (ad a) :: st.map (rv_cv ad) := by simp [rv_cv]
  have hcat : ((st.map (rv_cv ad)).map fun v => v.category) = st.map fun v => v.category := by simp [Function.comp_def, rv_cv_cat]
  have r1 : d ≤ R.frames := C.2.2.2.2.2.2.2.2.2.1
  have r2 : 64 * d ≤ R.locals := C.2.2.2.2.2.2.2.2.2.2.1
  have hR : d0 + 1 ≤ R.frames ∧ 8 + (Y.2.2.2.1 + 11) + 64 * d0 ≤ R.locals := ⟨by omega, by omega⟩
  rw [hstk]
  rcases l5 with l5 | ⟨host, l5⟩
  · exact va_runV (C := y.cls) ⟨C.1, C.2.1, C.2.2.2.1, C.2.2.2.2.1, C.2.2.2.2.2.1⟩ (hMet l E ad H.size C.2.2.2.2.2.2.2.2.2.2.2.2) ⟨callB_of (ws' := rv_wN) As.length C.2.2.2.2.2.1 (rv_good l1) rfl rfl rfl (C.2.2.2.2.2.1 _ l4) (C.2.2.2.2.2.1 _ l5) hy hR, C.2.2.2.2.2.1 _ l2, C.2.2.2.2.2.1 _ l3⟩ hp rfl (by simp) hls rfl (by show 2 * 0 + _ ≤ 8; rw [hcat]; omega) hdg ⟨b1, b2⟩
  · exact va_runVN (C := y.cls) (host := host) ⟨C.1, C.2.1, C.2.2.2.1, C.2.2.2.2.1, C.2.2.2.2.2.1⟩ (hMet l E ad H.size C.2.2.2.2.2.2.2.2.2.2.2.2) ⟨va_cnB (ws' := rv_wN) As.length C.2.2.2.2.2.1 (rv_good l1) rfl rfl rfl (C.2.2.2.2.2.2.2.2.1.2.1 _ l5 rfl) (C.2.2.2.2.2.1 _ l4) hy hR, C.2.2.2.2.2.1 _ l2, C.2.2.2.2.2.1 _ l3⟩ hp rfl (by simp) hls rfl (by show 2 * 0 + _ ≤ 8; rw [hcat]; omega) hdg ⟨b1, b2⟩
theorem rv_goI {y : MethodName} {Y : rvM} {ix a d0 : Nat} {As : List Value} {S1 : rvS} (hok : rv_okl lv st S S1) (hM : rv_Met y Y d0 (.ref a :: As) S none S1) (hd : d0 < d) (hw : (st.map fun v => v.category).sum ≤ 8) (hL : rv_LI X.1 ix y Y As.length) (hdg : decode X.2.1 pc = .ok (.invokespecial ix, 3)) : rv_Go X d pc lv (As.reverse ++ .ref a :: st) S (pc + 3) lv st S1 := by
  obtain ⟨hup, hnar, hMet⟩ := hM
  obtain ⟨⟨l1, l2, l4, l5⟩, hy, hml, hin, hret⟩ := hL
  obtain ⟨Yc, Yb, Yr, Yn, Yi, Ya⟩ := Y
  have hret : Yr = none := hret
  subst hret
  refine rv_run (v := none) (y := y) (Y := (Yc, Yb, none, Yn, Yi, Ya)) (As := .ref a :: As) hok ⟨(fun h => by cases h), hup.2⟩ (fun p l e R s m args below meth c0 E C ad H locs ls n1 n2 hW hS hls b1 b2 => ?_)
  have hp : PreS s H (rv_Pc E ad H.size S (.ref a :: As)) (Value.ref (ad a) :: As.map (rv_cv ad)) := ⟨rv_blind, rv_pre C.2.2.2.2.2.2.2.2.1 hS hW⟩
  have hstk : (As.reverse ++ Value.ref a :: st).map (rv_cv ad) = (As.map (rv_cv ad)).reverse ++ Value.ref (ad a) :: st.map (rv_cv ad) := by simp [rv_cv]
  have hcat : ((st.map (rv_cv ad)).map fun v => v.category) = st.map fun v => v.category := by simp [Function.comp_def, rv_cv_cat]
  have r1 : d ≤ R.frames := C.2.2.2.2.2.2.2.2.2.1
  have r2 : 64 * d ≤ R.locals := C.2.2.2.2.2.2.2.2.2.2.1
  have hml : Yn + 19 ≤ 64 := hml
  have hR : d0 + 1 ≤ R.frames ∧ 8 + (Yn + 11) + 64 * d0 ≤ R.locals := ⟨by omega, by omega⟩
  rw [hstk]
  rcases l5 with l5 | ⟨host, l5⟩
  · exact va_runI (bytes := Yb) (maxL := Yn) ⟨C.1, C.2.1, C.2.2.2.1, C.2.2.2.2.1, C.2.2.2.2.2.1⟩ (hMet l E ad H.size C.2.2.2.2.2.2.2.2.2.2.2.2) ⟨callB_of (ws' := rv_wN) As.length C.2.2.2.2.2.1 (rv_good l1) rfl rfl rfl (C.2.2.2.2.2.1 _ l4) (C.2.2.2.2.2.1 _ l5) hy hR, hin, C.2.2.2.2.2.1 _ l2⟩ hp rfl (by simp) hls rfl (by show 2 * 0 + _ ≤ 8; rw [hcat]; omega) hdg ⟨b1, b2⟩
  · exact va_runIN (bytes := Yb) (maxL := Yn) (host := host) ⟨C.1, C.2.1, C.2.2.2.1, C.2.2.2.2.1, C.2.2.2.2.2.1⟩ (hMet l E ad H.size C.2.2.2.2.2.2.2.2.2.2.2.2) ⟨va_cnB (ws' := rv_wN) As.length C.2.2.2.2.2.1 (rv_good l1) rfl rfl rfl (C.2.2.2.2.2.2.2.2.1.2.1 _ l5 rfl) (C.2.2.2.2.2.1 _ l4) hy hR, hin, C.2.2.2.2.2.1 _ l2⟩ hp rfl (by simp) hls rfl (by show 2 * 0 + _ ≤ 8; rw [hcat]; omega) hdg ⟨b1, b2⟩
theorem rv_goS {y : MethodName} {Y : rvM} {ix d0 : Nat} {As : List Value} {v : Option Value} {S1 : rvS} (hok : rv_okl lv st S S1) (hM : rv_Met y Y d0 As S v S1) (hd : d0 < d) (hw : (st.map fun v => v.category).sum ≤ 8) (hL : rv_LS X.1 ix y Y As.length) (hdg : decode X.2.1 pc = .ok (.invokestatic ix, 3)) : rv_Go X d pc lv (As.reverse ++ st) S (pc + 3) lv (v.toList ++ st) S1 := by
  obtain ⟨hup, hnar, hMet⟩ := hM
  obtain ⟨⟨l1, l2, l4, l5⟩, hy, hml⟩ := hL
  refine rv_run (y := y) (Y := Y) (As := As) hok ⟨(fun h => by cases h), hup.2⟩ (fun p l e R s m args below meth c0 E C ad H locs ls n1 n2 hW hS hls b1 b2 => ?_)
  have hp : PreS s H (rv_Pc E ad H.size S As) (As.map (rv_cv ad)) := ⟨rv_blind, rv_pre C.2.2.2.2.2.2.2.2.1 hS hW⟩
  have hstk : (As.reverse ++ st).map (rv_cv ad) = (As.map (rv_cv ad)).reverse ++ st.map (rv_cv ad) := by simp
  have hcat : ((st.map (rv_cv ad)).map fun v => v.category) = st.map fun v => v.category := by simp [Function.comp_def, rv_cv_cat]
  have r1 : d ≤ R.frames := C.2.2.2.2.2.2.2.2.2.1
  have r2 : 64 * d ≤ R.locals := C.2.2.2.2.2.2.2.2.2.2.1
  have hR : d0 + 1 ≤ R.frames ∧ 8 + (Y.2.2.2.1 + 11) + 64 * d0 ≤ R.locals := ⟨by omega, by omega⟩
  rw [hstk]
  rcases l5 with l5 | ⟨host, l5⟩
  · exact va_runS ⟨C.1, C.2.1, C.2.2.2.1, C.2.2.2.2.1, C.2.2.2.2.2.1⟩ (hMet l E ad H.size C.2.2.2.2.2.2.2.2.2.2.2.2) ⟨callB_of (ws' := rv_wN) As.length C.2.2.2.2.2.1 (rv_good l1) rfl rfl rfl (C.2.2.2.2.2.1 _ l4) (C.2.2.2.2.2.1 _ l5) hy hR, C.2.2.2.2.2.1 _ l2⟩ hp rfl (by simp) hls rfl (by show 2 * 0 + _ ≤ 8; rw [hcat]; omega) hdg ⟨b1, b2⟩
  · exact va_runSN (host := host) ⟨C.1, C.2.1, C.2.2.2.1, C.2.2.2.2.1, C.2.2.2.2.2.1⟩ (hMet l E ad H.size C.2.2.2.2.2.2.2.2.2.2.2.2) ⟨va_cnB (ws' := rv_wN) As.length C.2.2.2.2.2.1 (rv_good l1) rfl rfl rfl (C.2.2.2.2.2.2.2.2.1.2.1 _ l5 rfl) (C.2.2.2.2.2.1 _ l4) hy hR, C.2.2.2.2.2.1 _ l2, trivial⟩ hp rfl (by simp) hls rfl (by show 2 * 0 + _ ≤ 8; rw [hcat]; omega) hdg ⟨b1, b2⟩
theorem re_cV {y : MethodName} {Y : rvM} {ix a c n0 d0 : Nat} (As : List Value) {v : Option Value} {S1 : rvS} {st0 : List Value} (hM : rv_Met y Y d0 (.ref a :: As) S v S1) (hok : rv_okl lv st S S1) (hup : rv_up X.2.2.2.2.2.1 S S1) (hd : d0 < d) (hf : rv_is S a (c, n0)) (hc : c < 12 ∧ rv_R c = y.cls) (hw : (st.map fun v => v.category).sum ≤ 8) (hL : rv_LV X.1 ix y Y As.length) (hst : st0 = As.reverse ++ .ref a :: st) (hdg : decode X.2.1 pc = .ok (.invokevirtual ix, 3)) (k : rv_Ev X d (pc + 3) lv (v.toList ++ st) S1 r S') : rv_Ev X d pc lv st0 S r S' := by
  subst hst
  exact rv_Ev.go hup (rv_goV hok hM hd hf hc hw hL hdg) k
theorem re_cS {y : MethodName} {Y : rvM} {ix d0 : Nat} (As : List Value) {v : Option Value} {S1 : rvS} {st0 : List Value} (hM : rv_Met y Y d0 As S v S1) (hok : rv_okl lv st S S1) (hup : rv_up X.2.2.2.2.2.1 S S1) (hd : d0 < d) (hw : (st.map fun v => v.category).sum ≤ 8) (hL : rv_LS X.1 ix y Y As.length) (hst : st0 = As.reverse ++ st) (hdg : decode X.2.1 pc = .ok (.invokestatic ix, 3)) (k : rv_Ev X d (pc + 3) lv (v.toList ++ st) S1 r S') : rv_Ev X d pc lv st0 S r S' := by
  subst hst
  exact rv_Ev.go hup (rv_goS hok hM hd hw hL hdg) k
theorem re_cI {y : MethodName} {Y : rvM} {ix a d0 : Nat} (As : List Value) {S1 : rvS} {st0 : List Value} (hM : rv_Met y Y d0 (.ref a :: As) S none S1) (hok : rv_okl lv st S S1) (hup : rv_up X.2.2.2.2.2.1 S S1) (hd : d0 < d) (hw : (st.map fun v => v.category).sum ≤ 8) (hL : rv_LI X.1 ix y Y As.length) (hst : st0 = As.reverse ++ .ref a :: st) (hdg : decode X.2.1 pc = .ok (.invokespecial ix, 3)) (k : rv_Ev X d (pc + 3) lv st S1 r S') : rv_Ev X d pc lv st0 S r S' := by
  subst hst
  exact rv_Ev.go hup (rv_goI hok hM hd hw hL hdg) k
end RVK
