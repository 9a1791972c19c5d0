/-! THROWING: RimCoins.who, coin, debt where there are no such ones; the law's helpers, which catch it -/
/-! MAKING AND THROWING an exception whose constructor hands its text on by a pool entry of its own: rv_ctorMade, rv_makeS, rv_makeW and rv_athrow follow vx_ctorMadeS, vx_makeS and vx_athrow of the kit's rows -/
section RVK9
/-- a constructor that hands its text on, by the entry ix -/
def rv_pas (bs : ByteArray) (ix : Nat) : Prop := decode bs 0 = .ok (.aload_n 0, 1) ∧ decode bs 1 = .ok (.aload_n 1, 1) ∧ decode bs 2 = .ok (.invokespecial ix, 3) ∧ decode bs 5 = .ok (.return_, 1)
def rv_pass (X Y : String) (names : List String) (ix : Nat) (bs : ByteArray) : List Cond := Bundle.passSAtoms X Y ix bs ++ Bundle.chainSAtoms Y names
def rv_oa (own : String) (ic : Nat) (X Y : String) (names : List String) (ix : Nat) (bs : ByteArray) : List Cond :=
  Bundle.throwableAtoms ++ Bundle.throwableSAtoms ++ rv_pass X Y names ix bs ++
  [.methodLink own ic (Bundle.initS X), .instantiable X 6, .castable X X, .selects X Bundle.tFill0 Bundle.tFill0, .selects X Bundle.tFill Bundle.tFill,
   .lays X Bundle.tN "cause" "Ljava/lang/Throwable;", .lays X Bundle.tN "stackTrace" Bundle.steD, .lays X Bundle.tN "suppressedExceptions" Bundle.listD, .lays X Bundle.tN "detailMessage" "Ljava/lang/String;",
   .isRef (.static Bundle.tN "UNASSIGNED_STACK" Bundle.steD), .isRef (.static Bundle.tN "SUPPRESSED_SENTINEL" Bundle.listD),
   .fieldLink Bundle.tN 198 Bundle.tN "backtrace" "Ljava/lang/Object;", .lays Bundle.tN Bundle.tN "backtrace" "Ljava/lang/Object;", .lays X Bundle.tN "backtrace" "Ljava/lang/Object;"]
def rv_atX (own : String) (ic : Nat) (X Y : String) (names : List String) (ix : Nat) (bs : ByteArray) : List Cond := (rv_oa own ic X Y names ix bs).filter vx_no
theorem rv_chainX {args : Array Value} {s : State} {pl : Platform} (hpl : pl.magicAccessors = ({} : Platform).magicAccessors) {top : MethodId} (htop : s.methodNamed? (Bundle.initS Bundle.tN) = some top) (names : List String) (Y X : String) (hX : Bundle.fit X = true) (hY : Bundle.fit Y = true) (hn : ∀ n ∈ names, Bundle.fit n = true) {ix : Nat} {bs : ByteArray} (hbs : rv_pas bs ix)
    (h : ∀ c ∈ rv_pass X Y names ix bs, c.before args s = true) : ∃ (P1 : PassC) (Ps : List PassC), Ps.length = names.length + 1 ∧ P1.LinksS pl s ∧ (∀ P, P ∈ Ps → P.LinksS pl s) ∧ s.methodNamed? (Bundle.initS X) = some P1.m ∧ P1.sup = firstOf top (Ps.map (·.toPassT)) ∧ PassesOn top (Ps.map (·.toPassT)) := by
  obtain ⟨P, L, hm, hs⟩ := PassC.ofS_atoms (args := args) (s := s) hpl (X := X) (Y := Y) (Bundle.fit_spec hX).1 (Bundle.fit_spec hY).2 hbs.1 hbs.2.1 hbs.2.2.1 hbs.2.2.2 (fun c hc => h c (List.mem_append_left _ hc))
  obtain ⟨P', Ps, hlen, L', hL, hm', hsup, hpass⟩ := Bundle.chainS (args := args) hpl htop names Y hY hn (fun c hc => h c (List.mem_append_right _ hc))
  refine ⟨P, P' :: Ps, by simp [hlen], L, ?_, hm, Option.some.inj (hs.symm.trans hm'), hsup, hpass⟩
  intro Q hQ
  rcases List.mem_cons.mp hQ with rfl | hQ
  · exact L'
  · exact hL Q hQ
section
variable {p : Program} {l : Launch} {e : Env} {R : Room} {s : State} {m₀ : MethodId} {args : Array Value} {below : List Frame} {meth : Method} {c : Code} {W : State} {locs : List Loc} {cells slots : Nat}
set_option maxHeartbeats 1000000 in
theorem rv_ctorMade (X : Stand p l e R s m₀ args below meth c W locs cells slots) (hexec : p.tables.exec = Jvm.exec) (htr : e.platform.stackTraces = false) {own cls Sp : String} {names : List String} {ic ix : Nat} {bs : ByteArray}
    (hown : s.vm.findClass own = some m₀.cls) (hcls : Bundle.fit cls = true) (hY : Bundle.fit Sp = true) (hnames : ∀ n ∈ names, Bundle.fit n = true) (hbs : rv_pas bs ix)
    (h : ∀ a ∈ rv_oa own ic cls Sp names ix bs, a.before args s = true)
    (hlocs : ∀ x ∈ locs, ∀ cell, s.heap[x.base]? = some cell → cell.vm.isStatics = false)
    {a : Addr} {cX : ClassId} {kX : Class} (hfoundX : s.vm.findClass cls = some cX) (hkX : s.vm.classes[cX]? = some kX) (hcell : W.heap[a]? = some (freshCell cX kX)) (hnew : s.heap.size ≤ a)
    {msg : Value} (hmsg : msg.isRef = true)
    {g : JFrame} (hg : g.method = m₀) (hsize : g.locals.size = c.maxLocals) {rest : List Value} (hstack : g.stack = msg :: .ref a :: .ref a :: rest)
    (hd6 : decode c.code g.pc = .ok (.invokespecial ic, 3))
    (hRframes : names.length + 1 + 3 < R.frames) (hRlocals : 2 * g.monitorRoom + ((Value.ref a :: rest).map fun v => v.category).sum + (13 * (names.length + 1 + 1) + 42) ≤ R.locals) :
    ∃ (V : State) (ce : Cell) (L : List Loc), Stand p l e R s m₀ args below meth c (V.setCell a ce) (locs ++ L) cells slots ∧ (∀ y ∈ L, y.base = a) ∧ a < V.heap.size ∧ ce.cls = cX ∧ ce.vm = .none ∧
      ∀ target, Steps p.tables e below ((V.setCell a ce).setTop { g with stack := .ref a :: rest, pc := g.pc + 3 }) target → Steps p.tables e below (W.setTop g) target := by
  have howns : e.platform.frameOwnsMonitors = true := by rw [X.admits.platform]
  have hfin : e.platform.finalization = false := by rw [X.admits.platform]
  have hpl : e.platform.magicAccessors = ({} : Platform).magicAccessors := by rw [X.admits.platform]
  have a' : ∀ x, x ∈ rv_oa own ic cls Sp names ix bs → x.holds args s none s [] = true := fun x hx => h x hx
  obtain ⟨T, Z0, L, -, Y⟩ := ThrowableC.of_atoms (args := args) howns hfin hpl (fun x hx => h x (by simp [rv_oa, hx]))
  obtain ⟨Z, M, LZ, LM, hnZ⟩ := Init0T.ofS_atoms (args := args) hpl L Y (fun x hx => h x (by simp [rv_oa, hx]))
  obtain ⟨P1, Ps, hlen, L1, hL, hP1m, hlink1, hlink⟩ := rv_chainX (args := args) hpl hnZ names Sp cls hcls hY hnames hbs (fun x hx => h x (by simp [rv_oa, hx]))
  have hfound : s.vm.findClass cls = some P1.m.cls := findClass_of_methodNamed hP1m
  cases Option.some.inj (hfoundX.symm.trans hfound)
  obtain ⟨c1, kX', hc1, hk, hord, -, -, hn6⟩ := Cond.instantiable_spec (a' (.instantiable cls 6) (by simp [rv_oa]))
  cases Option.some.inj (hc1.symm.trans hfound)
  cases Option.some.inj (hkX.symm.trans hk)
  have hsel0 : selectMethod e.platform s.vm P1.m.cls T.fill0 = .method T.fill0 := by
    obtain ⟨c2, r2, m2, q1, q2, q3, q4, -⟩ := Cond.selects_spec (a' (.selects cls Bundle.tFill0 Bundle.tFill0) (by simp [rv_oa]))
    cases Option.some.inj (q1.symm.trans hfound)
    cases Option.some.inj (q2.symm.trans (State.methodFound?_of_named Y.fill0 (by decide)))
    cases Option.some.inj (q3.symm.trans Y.fill0)
    rw [Launch.admits_selectMethod X.admits]; exact q4
  have hselF : selectMethod e.platform s.vm P1.m.cls T.fill = .method T.fill := by
    obtain ⟨c2, r2, m2, q1, q2, q3, q4, -⟩ := Cond.selects_spec (a' (.selects cls Bundle.tFill Bundle.tFill) (by simp [rv_oa]))
    cases Option.some.inj (q1.symm.trans hfound)
    cases Option.some.inj (q2.symm.trans (State.methodFound?_of_named Y.fill (by decide)))
    cases Option.some.inj (q3.symm.trans Y.fill)
    rw [Launch.admits_selectMethod X.admits]; exact q4
  obtain ⟨cellS0, hcS0, hiss⟩ := Y.statics
  obtain ⟨u0, hu0⟩ := Cond.staticRefV Y.unassigned L.unassignedStatic L.statics hcS0 hiss (a' (.isRef (.static Bundle.tN "UNASSIGNED_STACK" Bundle.steD)) (by simp [rv_oa]))
  obtain ⟨sen, hsen⟩ := Cond.staticRefV Y.sentinel L.sentinelStatic L.statics hcS0 hiss (a' (.isRef (.static Bundle.tN "SUPPRESSED_SENTINEL" Bundle.listD)) (by simp [rv_oa]))
  obtain ⟨ci198, i198, fB, hk198, hg198, ha198, hsB, -, hnB, htB, hffB⟩ := Cond.ownField (t := .object "java/lang/Object") Y.found L.cls (by decide +kernel) (a' (.fieldLink Bundle.tN 198 Bundle.tN "backtrace" "Ljava/lang/Object;") (by simp [rv_oa])) (a' (.lays Bundle.tN Bundle.tN "backtrace" "Ljava/lang/Object;") (by simp [rv_oa])) e.platform hpl
  obtain ⟨cellS, hcS', heS, -, hkeep⟩ := X.same.2.2.2.2.2 T.aS cellS0 hcS0
  have hcellS : W.heap[T.aS]? = some cellS := hcS'
  have hout' : ∀ i, (⟨T.aS, i⟩ : Loc) ∉ locs := fun i hmem => by
    have := hlocs _ hmem cellS0 hcS0
    rw [hiss] at this; cases this
  have hknownS : cellS.vm ≠ .unknown := by
    rw [heS]; intro hu
    rw [show cellS0.vm = .unknown from hu] at hiss
    cases hiss
  have hneS : T.aS ≠ a := Nat.ne_of_lt (Nat.lt_of_lt_of_le (Array.getElem?_eq_some_iff.mp hcS0).1 hnew)
  obtain ⟨iM, hffM⟩ := Y.msg
  obtain ⟨tyC, dC, hdC, hdnC⟩ := Cond.laysAt hfound hk Y.cause (a' (.lays cls Bundle.tN "cause" "Ljava/lang/Throwable;") (by simp [rv_oa]))
  obtain ⟨tyS, dS, hdS, hdnS⟩ := Cond.laysAt hfound hk Y.stack (a' (.lays cls Bundle.tN "stackTrace" Bundle.steD) (by simp [rv_oa]))
  obtain ⟨tyP, dP, hdP, hdnP⟩ := Cond.laysAt hfound hk Y.supp (a' (.lays cls Bundle.tN "suppressedExceptions" Bundle.listD) (by simp [rv_oa]))
  obtain ⟨tyM, dM, hdM, hdnM⟩ := Cond.laysAt hfound hk hffM (a' (.lays cls Bundle.tN "detailMessage" "Ljava/lang/String;") (by simp [rv_oa]))
  obtain ⟨tyB, dB, hdB, hdnB⟩ := Cond.laysAt hfound hk hffB (a' (.lays cls Bundle.tN "backtrace" "Ljava/lang/Object;") (by simp [rv_oa]))
  have bC := Cond.laysApart hdB hdC hdnB hdnC (by rw [hnB, Y.causeName]; decide)
  have bS := Cond.laysApart hdB hdS hdnB hdnS (by rw [hnB, Y.stackName]; decide)
  have bP := Cond.laysApart hdB hdP hdnB hdnP (by rw [hnB, Y.suppName]; decide)
  have hskip : SkipFacts T e.platform s (fun u => u) u0 ((preparedCellV T.toThrowableT (freshCell P1.m.cls kX) a u0 sen).withEntry W.cur) :=
    ⟨{ ci198 := ci198, i198 := i198, fBack := fB }, ⟨hk198, hg198, ha198, hsB⟩, by
      have := fresh_default (c := P1.m.cls) tyB
      rw [htB] at this
      simpa [preparedCellV, Cell.setSlot, Cell.withEntry, Array.getElem?_setIfInBounds, bC, bS, bP, bC.symm, bS.symm, bP.symm, defaultValue] using this, fun _ _ => rfl⟩
  obtain ⟨tm, methC, cdC, kC, vm₁, hnC, -, -, -, -, -, -, -, hW₁, st1⟩ := Steps.initColdS (tb := p.tables) (e := e) (below := below) (s := s) (U := W) X.here hexec X.warmed hpl hown (t := Bundle.initS cls) rfl rfl (Bundle.fit_spec hcls).2
    (a' (.methodLink own ic (Bundle.initS cls)) (by simp [rv_oa])) (h (.instanceMethod (Bundle.initS cls)) (by simp [rv_oa, rv_pass, Bundle.passSAtoms])) (bytes := bs) (maxL := 2) (h (.code (Bundle.initS cls) bs 2 none) (by simp [rv_oa, rv_pass, Bundle.passSAtoms]))
    (f := g) hg (a := a) (msg := msg) (rest := .ref a :: rest) hstack hd6
  cases Option.some.inj (hnC.symm.trans hP1m)
  have X₁ := X.noted hW₁
  obtain ⟨vm₂, X₂, st2⟩ := X₁.ctorMessageOffV hexec (g := { g with stack := .ref a :: rest }) hg hsize T L Z LZ M LM (P1 :: Ps)
    (fun P hP => by rcases List.mem_cons.mp hP with rfl | hP; exact L1; exact hL P hP) ⟨hlink1, hlink⟩ (u0 := u0) (sen := sen) (self := a) hmsg (cell := freshCell P1.m.cls kX) (cellS := cellS)
    hcell (fun _ => by simp) (by simp) rfl rfl hsel0 hselF hcellS hneS hknownS (by rw [hkeep _ (hout' _)]; exact hu0) (by rw [hkeep _ (hout' _)]; exact hsen)
    (Takes.of_laid hk hord tyC (by rw [Y.causeType]; rfl)) (Takes.of_laid hk hord tyS (by rw [Y.stackType]; exact fits_refV_array _ u0)) (Takes.of_laid hk hord tyP (by rw [Y.suppType]; exact fits_refV_object _ sen))
    (Takes.of_laid hk hord tyM (by rw [Y.msgType]; exact fits_refV_object _ ⟨msg, hmsg⟩)) Y.objLocals hskip htr [] hd6
    (by simp only [List.length_cons, hlen]; omega) (by simp only [List.length_cons, hlen]; exact hRlocals)
  have hlt : a < ((W.setVm vm₁).setVm vm₂).heap.size := (Array.getElem?_eq_some_iff.mp hcell).1
  refine ⟨(W.setVm vm₁).setVm vm₂, _, _, X₂, fun y hy => ?_, hlt, rfl, rfl, fun target hwalk => st1 _ (fun acts => ?_)⟩
  · simp only [List.mem_cons, List.not_mem_nil, or_false] at hy
    rcases hy with rfl | rfl | rfl | rfl | rfl <;> rfl
  · rw [doInvoke_state]
    exact st2 _ hwalk
end
section
variable {p : Program} {l : Launch} {e : Env} {R : Room} {s : State} {m : MethodId} {args : Array Value} {below : List Frame} {meth : Method} {c : Code} {H : Heap} {locs : List Loc} {cells slots : Nat} {Q : State → Prop}
variable {ls : Array Slot} {rest : List Value}
theorem rv_back9 {T S : State} {R' : Room} {k n : Nat} (X : Stand p l e R s m args below meth c T locs cells slots) (Y : Stand p l e R' ((T.setVm s.vm).setFrames (.invoking m args :: below)) m args below meth c T [] 0 0) (Z : Stand p l e R' ((T.setVm s.vm).setFrames (.invoking m args :: below)) m args below meth c S [] k n) :
    Stand p l e R s m args below meth c S locs (cells + k) (slots + n) := by
  have hW0 : s.WarmedH ((T.setVm s.vm).setFrames (.invoking m args :: below)).vm := State.WarmedH.refl s
  refine { admits := X.admits, cas := X.cas, clock := X.clock, frames := X.frames, room := X.room, hears := X.hears, method := X.method, code := X.code, here := Z.here, tail := Z.tail, warmed := State.WarmedH.trans hW0 Z.warmed, limits := Z.limits.trans (Y.limits.symm.trans X.limits), bytes := Z.bytes.trans (Y.bytes.symm.trans X.bytes), same := ?_ }
  obtain ⟨e1, e2⟩ := Z.same
  rw [State.setFrames_setFrames] at e1
  have h2 : (T.setVm s.vm).sameButNew (S.setVm s.vm) [] k n := ⟨e1, e2⟩
  have h3 := X.same.trans h2
  rw [List.append_nil] at h3
  exact h3
theorem rv_makeS {cc : ByteArray} {pc : Nat} (hexec : p.tables.exec = Jvm.exec) (hb : c.code = cc) (hl : l.stackTraces = false) {own cls Sp text : String} {names : List String} {ik is ic ix sa : Nat} {bs : ByteArray} {A : Nat → Prop}
    (hown : s.vm.findClass own = some m.cls) (hcls : Bundle.fit cls = true) (hY : Bundle.fit Sp = true) (hnames : ∀ n ∈ names, Bundle.fit n = true) (hbs : rv_pas bs ix)
    (hk : (Cond.classLink own ik cls).before args s = true) (hini : (Cond.initialized cls).before args s = true) (hstr : vk_R own is text sa s) (hat : ∀ w ∈ rv_atX own ic cls Sp names ix bs, w.before args s = true)
    (hgood : ∀ w ∈ Cond.classLink own ik cls :: Cond.initialized cls :: rv_atX own ic cls Sp names ix bs, vx_ot w = true)
    (hU : vx_Zq Bundle.tN "UNASSIGNED_STACK" Bundle.steD A s s.heap) (hN : vx_Zq Bundle.tN "SUPPRESSED_SENTINEL" Bundle.listD A s s.heap) (hS : va_S A s.heap H locs) (hsize : ls.size = c.maxLocals)
    (d0 : decode cc pc = .ok (.new ik, 3)) (d3 : decode cc (pc + 3) = .ok (.dup, 1)) (d4 : decode cc (pc + 4) = .ok (.ldc is, 2)) (d6 : decode cc (pc + 6) = .ok (.invokespecial ic, 3))
    (hRframes : names.length + 1 + 3 < R.frames) (hRlocals : (rest.map fun v => v.category).sum + (13 * (names.length + 1 + 1) + 43) ≤ R.locals) (hRcells : cells + 1 ≤ R.cells) (hRslots : slots + 6 ≤ R.slots)
    (kk : ∀ (q : Nat) (ce : Cell) (H1 : Heap), H1[q]? = some ce → ce.vm = .none → s.vm.findClass cls = some ce.cls → H.size ≤ H1.size → (∀ x : Nat, x < H.size → H1[x]? = H[x]?) → va_S A s.heap H1 locs → W p l e R s m args below meth c H1 locs (cells + 1) (slots + 6) Q (F0 m (pc + 9) ls (.ref q :: rest))) :
    W p l e R s m args below meth c H locs cells slots Q (F0 m pc ls rest) := by
  intro T hT X
  subst hT
  have htr : e.platform.stackTraces = false := (show e.platform.stackTraces = l.stackTraces by rw [X.admits.platform]).trans hl
  have Y := vx_rebase X (R' := { frames := R.frames, locals := R.locals, cells := 1, slots := 6 }) (Nat.le_refl _) (Nat.le_refl _) hRcells hRslots
  obtain ⟨s', hA'⟩ : ∃ z, z = (T.setVm s.vm).setFrames (.invoking m args :: below) := ⟨_, rfl⟩
  rw [← hA'] at Y
  have hvm : s'.vm = s.vm := by rw [hA']; rfl
  have hhp : s'.heap = T.heap := by rw [hA']; rfl
  have hW0 : s.WarmedH s'.vm := by rw [hvm]; exact State.WarmedH.refl s
  have hat' : ∀ w ∈ rv_atX own ic cls Sp names ix bs, w.before args s' = true := fun w hw => vx_ot_at hW0 hvm.symm (hgood w (List.mem_cons_of_mem _ (List.mem_cons_of_mem _ hw))) (hat w hw)
  have hk' : (Cond.classLink own ik cls).before args s' = true := vx_ot_at hW0 hvm.symm (hgood _ List.mem_cons_self) hk
  have hini' : (Cond.initialized cls).before args s' = true := vx_ot_at hW0 hvm.symm (hgood _ (List.mem_cons_of_mem _ List.mem_cons_self)) hini
  have hU' : vx_Zq Bundle.tN "UNASSIGNED_STACK" Bundle.steD A s' s'.heap := by rw [hhp]; exact vx_Zq.moved hW0.alike (hU.kept hS.2.1)
  have hN' : vx_Zq Bundle.tN "SUPPRESSED_SENTINEL" Bundle.listD A s' s'.heap := by rw [hhp]; exact vx_Zq.moved hW0.alike (hN.kept hS.2.1)
  have h : ∀ w ∈ rv_oa own ic cls Sp names ix bs, w.before args s' = true := vx_own hat' (vx_isRefq hU'.1) (vx_isRefq hN'.1) hU'.2.word hN'.2.word
  have hown' : s'.vm.findClass own = some m.cls := by rw [hvm]; exact hown
  have hins : (Cond.instantiable cls 6).before args s' = true := h _ (by simp [rv_oa])
  obtain ⟨vm₁, cX, kX, hfX, hkX, -, -, X₁, st1⟩ := Y.newCold hexec (own := own) (C := cls) (index := ik) (n := 6) hown' hk' hins hini'
    (g := F0 m pc ls rest) rfl (by rw [hb]; exact d0) (Nat.le_refl _) (Nat.le_refl _)
  generalize hT1 : (T.setVm vm₁).pushCell { cls := cX, slots := kX.instanceTypes.map defaultValue, vm := .none } = T1 at X₁ st1
  have hcat : (Value.ref T.heap.size).category = 1 := rfl
  have hcellA : T1.heap[T.heap.size]? = some (freshCell cX kX) := by rw [← hT1]; exact State.heap_pushCell_size _ _
  have d3' : decode c.code (pc + 3) = .ok (.dup, 1) := by rw [hb]; exact d3
  have d4' : decode c.code (pc + 4) = .ok (.ldc is, 2) := by rw [hb]; exact d4
  have hstr' : vk_R own is text sa s' := vk_R.warm hW0 hstr
  obtain ⟨V, ce, L, Z, hL, hlt, hcl9, hvm9, st⟩ := rv_ctorMade X₁ hexec htr (own := own) (cls := cls) (Sp := Sp) (names := names) (ic := ic) (ix := ix) (bs := bs) hown' hcls hY hnames hbs h (fun x hx => nomatch hx) hfX hkX hcellA (by rw [hhp]; exact Nat.le_refl _) (msg := .ref sa) rfl
    (g := { method := m, pc := pc + 6, locals := ls, stack := .ref sa :: .ref T.heap.size :: .ref T.heap.size :: rest, locked := none }) rfl hsize (rest := rest) rfl
    (by rw [hb]; exact d6) hRframes (by simp only [List.map_cons, List.sum_cons, hcat]; omega)
  have Z0 := Stand.forget (locs := []) Z (fun y hy => by rw [hL y hy, hhp]; exact Nat.le_refl _)
  obtain ⟨f1, f2⟩ := vx_frame Z0.same
  rw [hhp] at f1 f2
  have hcid : s.vm.findClass cls = some ce.cls := by
    rw [hcl9]
    rw [hvm] at hfX
    exact hfX
  have hh : (V.setCell T.heap.size ce).heap[T.heap.size]? = some ce := heapAt_setCell_self (s := V) ce hlt
  subst hA'
  have X5 := rv_back9 X Y Z0
  have X6 : Stand p l e R s m args below meth c (V.setCell T.heap.size ce) locs (cells + 1) (slots + 6) := { X5 with same := X5.same.mono (by omega) (by omega) }
  obtain ⟨t, a1, b1⟩ := kk T.heap.size ce (V.setCell T.heap.size ce).heap hh hvm9 hcid f1 (fun x hx => f2 x hx (fun z hz => nomatch hz)) ⟨Nat.le_trans hS.1 f1, fun q h1 h2 => (f2 q (Nat.lt_of_lt_of_le h1 hS.1) (fun z hz => nomatch hz)).trans (hS.2.1 q h1 h2), hS.2.2⟩ _ rfl X6
  refine ⟨t, st1 _ ?_, b1⟩
  show Steps p.tables e below (T1.setTop { method := m, pc := pc + 3, locals := ls, stack := .ref T.heap.size :: rest, locked := none }) _
  jvm_step X₁.here [X₁.here.top, hexec, d3', Value.category]
  exact X₁.ldcString hexec (own := own) (text := text) (index := is) (a := sa) hown' hstr'.1 hstr'.2
    (g := { method := m, pc := pc + 4, locals := ls, stack := .ref T.heap.size :: .ref T.heap.size :: rest, locked := none }) rfl d4' _ (st _ a1)
theorem rv_makeW {cc : ByteArray} {pc : Nat} (hexec : p.tables.exec = Jvm.exec) (hb : c.code = cc) (hl : l.stackTraces = false) {own cls Sp text : String} {names : List String} {ik is ic ix sa : Nat} {bs : ByteArray} {A : Nat → Prop}
    (hown : s.vm.findClass own = some m.cls) (hcls : Bundle.fit cls = true) (hY : Bundle.fit Sp = true) (hnames : ∀ n ∈ names, Bundle.fit n = true) (hbs : rv_pas bs ix)
    (hk : (Cond.classLink own ik cls).before args s = true) (hini : (Cond.initialized cls).before args s = true) (hstr : vk_R own is text sa s) (hat : ∀ w ∈ rv_atX own ic cls Sp names ix bs, w.before args s = true)
    (hgood : ∀ w ∈ Cond.classLink own ik cls :: Cond.initialized cls :: rv_atX own ic cls Sp names ix bs, vx_ot w = true)
    (hU : vx_Zq Bundle.tN "UNASSIGNED_STACK" Bundle.steD A s s.heap) (hN : vx_Zq Bundle.tN "SUPPRESSED_SENTINEL" Bundle.listD A s s.heap) (hS : va_S A s.heap H locs) (hsize : ls.size = c.maxLocals)
    (d0 : decode cc pc = .ok (.new ik, 3)) (d3 : decode cc (pc + 3) = .ok (.dup, 1)) (d4 : decode cc (pc + 4) = .ok (.ldc_w is, 3)) (d6 : decode cc (pc + 7) = .ok (.invokespecial ic, 3))
    (hRframes : names.length + 1 + 3 < R.frames) (hRlocals : (rest.map fun v => v.category).sum + (13 * (names.length + 1 + 1) + 43) ≤ R.locals) (hRcells : cells + 1 ≤ R.cells) (hRslots : slots + 6 ≤ R.slots)
    (kk : ∀ (q : Nat) (ce : Cell) (H1 : Heap), H1[q]? = some ce → ce.vm = .none → s.vm.findClass cls = some ce.cls → H.size ≤ H1.size → (∀ x : Nat, x < H.size → H1[x]? = H[x]?) → va_S A s.heap H1 locs → W p l e R s m args below meth c H1 locs (cells + 1) (slots + 6) Q (F0 m (pc + 10) ls (.ref q :: rest))) :
    W p l e R s m args below meth c H locs cells slots Q (F0 m pc ls rest) := by
  intro T hT X
  subst hT
  have htr : e.platform.stackTraces = false := (show e.platform.stackTraces = l.stackTraces by rw [X.admits.platform]).trans hl
  have Y := vx_rebase X (R' := { frames := R.frames, locals := R.locals, cells := 1, slots := 6 }) (Nat.le_refl _) (Nat.le_refl _) hRcells hRslots
  obtain ⟨s', hA'⟩ : ∃ z, z = (T.setVm s.vm).setFrames (.invoking m args :: below) := ⟨_, rfl⟩
  rw [← hA'] at Y
  have hvm : s'.vm = s.vm := by rw [hA']; rfl
  have hhp : s'.heap = T.heap := by rw [hA']; rfl
  have hW0 : s.WarmedH s'.vm := by rw [hvm]; exact State.WarmedH.refl s
  have hat' : ∀ w ∈ rv_atX own ic cls Sp names ix bs, w.before args s' = true := fun w hw => vx_ot_at hW0 hvm.symm (hgood w (List.mem_cons_of_mem _ (List.mem_cons_of_mem _ hw))) (hat w hw)
  have hk' : (Cond.classLink own ik cls).before args s' = true := vx_ot_at hW0 hvm.symm (hgood _ List.mem_cons_self) hk
  have hini' : (Cond.initialized cls).before args s' = true := vx_ot_at hW0 hvm.symm (hgood _ (List.mem_cons_of_mem _ List.mem_cons_self)) hini
  have hU' : vx_Zq Bundle.tN "UNASSIGNED_STACK" Bundle.steD A s' s'.heap := by rw [hhp]; exact vx_Zq.moved hW0.alike (hU.kept hS.2.1)
  have hN' : vx_Zq Bundle.tN "SUPPRESSED_SENTINEL" Bundle.listD A s' s'.heap := by rw [hhp]; exact vx_Zq.moved hW0.alike (hN.kept hS.2.1)
  have h : ∀ w ∈ rv_oa own ic cls Sp names ix bs, w.before args s' = true := vx_own hat' (vx_isRefq hU'.1) (vx_isRefq hN'.1) hU'.2.word hN'.2.word
  have hown' : s'.vm.findClass own = some m.cls := by rw [hvm]; exact hown
  have hins : (Cond.instantiable cls 6).before args s' = true := h _ (by simp [rv_oa])
  obtain ⟨vm₁, cX, kX, hfX, hkX, -, -, X₁, st1⟩ := Y.newCold hexec (own := own) (C := cls) (index := ik) (n := 6) hown' hk' hins hini'
    (g := F0 m pc ls rest) rfl (by rw [hb]; exact d0) (Nat.le_refl _) (Nat.le_refl _)
  generalize hT1 : (T.setVm vm₁).pushCell { cls := cX, slots := kX.instanceTypes.map defaultValue, vm := .none } = T1 at X₁ st1
  have hcat : (Value.ref T.heap.size).category = 1 := rfl
  have hcellA : T1.heap[T.heap.size]? = some (freshCell cX kX) := by rw [← hT1]; exact State.heap_pushCell_size _ _
  have d3' : decode c.code (pc + 3) = .ok (.dup, 1) := by rw [hb]; exact d3
  have d4' : decode c.code (pc + 4) = .ok (.ldc_w is, 3) := by rw [hb]; exact d4
  have hstr' : vk_R own is text sa s' := vk_R.warm hW0 hstr
  obtain ⟨V, ce, L, Z, hL, hlt, hcl9, hvm9, st⟩ := rv_ctorMade X₁ hexec htr (own := own) (cls := cls) (Sp := Sp) (names := names) (ic := ic) (ix := ix) (bs := bs) hown' hcls hY hnames hbs h (fun x hx => nomatch hx) hfX hkX hcellA (by rw [hhp]; exact Nat.le_refl _) (msg := .ref sa) rfl
    (g := { method := m, pc := pc + 7, locals := ls, stack := .ref sa :: .ref T.heap.size :: .ref T.heap.size :: rest, locked := none }) rfl hsize (rest := rest) rfl
    (by rw [hb]; exact d6) hRframes (by simp only [List.map_cons, List.sum_cons, hcat]; omega)
  have Z0 := Stand.forget (locs := []) Z (fun y hy => by rw [hL y hy, hhp]; exact Nat.le_refl _)
  obtain ⟨f1, f2⟩ := vx_frame Z0.same
  rw [hhp] at f1 f2
  have hcid : s.vm.findClass cls = some ce.cls := by
    rw [hcl9]
    rw [hvm] at hfX
    exact hfX
  have hh : (V.setCell T.heap.size ce).heap[T.heap.size]? = some ce := heapAt_setCell_self (s := V) ce hlt
  subst hA'
  have X5 := rv_back9 X Y Z0
  have X6 : Stand p l e R s m args below meth c (V.setCell T.heap.size ce) locs (cells + 1) (slots + 6) := { X5 with same := X5.same.mono (by omega) (by omega) }
  obtain ⟨t, a1, b1⟩ := kk T.heap.size ce (V.setCell T.heap.size ce).heap hh hvm9 hcid f1 (fun x hx => f2 x hx (fun z hz => nomatch hz)) ⟨Nat.le_trans hS.1 f1, fun q h1 h2 => (f2 q (Nat.lt_of_lt_of_le h1 hS.1) (fun z hz => nomatch hz)).trans (hS.2.1 q h1 h2), hS.2.2⟩ _ rfl X6
  refine ⟨t, st1 _ ?_, b1⟩
  show Steps p.tables e below (T1.setTop { method := m, pc := pc + 3, locals := ls, stack := .ref T.heap.size :: rest, locked := none }) _
  jvm_step X₁.here [X₁.here.top, hexec, d3', Value.category]
  exact X₁.ldcStringW hexec (own := own) (text := text) (index := is) (a := sa) hown' hstr'.1 hstr'.2
    (g := { method := m, pc := pc + 4, locals := ls, stack := .ref T.heap.size :: .ref T.heap.size :: rest, locked := none }) rfl d4' _ (st _ a1)
/-- 'throw x' of an object that was made before -/
theorem rv_athrow {cc : ByteArray} {pc : Nat} (hexec : p.tables.exec = Jvm.exec) (hb : c.code = cc) {q : Addr} (hdg : decode cc pc = .ok (.athrow, 1)) (k : vx_W p l e R s m args below meth c H locs cells slots Q (F0 m pc ls rest) q) : W p l e R s m args below meth c H locs cells slots Q (F0 m pc ls (.ref q :: rest)) := by
  intro T hT X
  obtain ⟨t, st, hq⟩ := k T hT X
  refine ⟨t, ?_, hq⟩
  have hdg' : decode c.code pc = .ok (.athrow, 1) := by rw [hb]; exact hdg
  jvm_step X.here [X.here.top, hexec, hdg', athrow.wp_sem]
  exact st
end
end RVK9
def rv_nse : String := "java/util/NoSuchElementException"
def rv_rte : String := "java/lang/RuntimeException"
def rv_chain : List String := ["java/lang/Exception"]
abbrev rv_atN : List Cond := rv_atX RX12 112 rv_nse rv_rte rv_chain 13 prog_27_method_4_code
theorem rv_pasN : rv_pas prog_27_method_4_code 13 := ⟨by decide +kernel, by decide +kernel, by decide +kernel, by decide +kernel⟩
set_option maxRecDepth 100000 in
theorem rv_atS_in : ∀ w ∈ rv_atN, w ∈ lw_tbl ∧ (goodWord w = true ∨ rv_isNest w = true) := by decide +kernel
set_option maxRecDepth 100000 in
theorem rv_atS_ot : ∀ w ∈ Cond.classLink RX12 108 rv_nse :: Cond.initialized rv_nse :: rv_atN, vx_ot w = true := by decide +kernel
theorem rv_nest_use {s : State} {args : Array Value} {w : Cond} (hn : rv_isNest w = true) (h : va_Nw w s) : w.before args s = true := by
  cases w <;> first | exact va_Nw.use rfl h | cases hn
def rv_MetX (y : MethodName) (X : rvM) (As : List Value) (S : rvS) : Prop := ∀ (l : Launch) (E : rvE) (ad : Nat → Nat) (sz : Nat), l.stackTraces = false →
  vx_Met l y (rv_ws y X) ({ frames := 8, cells := 1, slots := 6, locals := 512 } : Room) (rv_Pc E ad sz S As) (va_Qi (fun (_ : Int32) (_ : Unit) => False) (fun _ _ => True) (rv_A E)) (vx_X (fun _ : Unit => True) (fun En _ t => En = rv_nse ∧ rv_Wd E ad S t.heap) (rv_A E)) 1 6 (rv_A E)
theorem rv_MetX.of {y : MethodName} {X : rvM} {d : Nat} {As : List Value} {S : rvS} {P is : Nat} {text : String} (hy : plainName y.cls = true ∧ X.1 = y.cls ∧ X.2.2.2.2.1 = false ∧ X.2.2.2.2.2.2 = none) (hX : X.1 = RX12) (hd : d ≤ 8) (hn : (lg_sl As).length ≤ X.2.2.2.1)
    (hstr : ∀ (E : rvE) (U : State), rv_Env E U → ∃ a, vk_R RX12 is text a U)
    (d0 : decode X.2.1 P = .ok (.new 108, 3)) (d3 : decode X.2.1 (P + 3) = .ok (.dup, 1))
    (dr : (decode X.2.1 (P + 4) = .ok (.ldc is, 2) ∧ decode X.2.1 (P + 6) = .ok (.invokespecial 112, 3) ∧ decode X.2.1 (P + 9) = .ok (.athrow, 1)) ∨ (decode X.2.1 (P + 4) = .ok (.ldc_w is, 3) ∧ decode X.2.1 (P + 7) = .ok (.invokespecial 112, 3) ∧ decode X.2.1 (P + 10) = .ok (.athrow, 1)))
    (h : rv_Ev X d 0 (lv_args 0 As) [] S (some (.retAddr P)) S) : rv_MetX y X As S := by
  obtain ⟨hup, pcr, lvr, hgo, hdr, hnar⟩ := h
  have hdr : pcr = P := hdr
  subst hdr
  intro l E ad sz hst
  refine vx_ofW (cc := X.2.1) (maxL := X.2.2.2.1) (ret := X.2.2.1) hy.1 rfl ?_
  intro p e s m args below meth c s₁ B hml hnt hv
  obtain ⟨rfl, hsz, hEnv, hW⟩ := hv
  have hts := atoms_spec (ws := rv_ws y X) B.pre
  have C : rv_Cx X d p l ({ frames := 8, cells := 1, slots := 6, locals := 512 } : Room) s m (As.map (rv_cv ad)).toArray meth c E := ⟨B.exec, B.bytes, B.returns, hml, by rw [hy.2.1]; exact findClass_of_methodNamed B.named, fun w hw => hts w (List.mem_cons_of_mem _ hw), B.notSynchronized, (fun z => by rw [hy.2.2.1] at z; cases z), hEnv, hd, by show 64 * d ≤ 512; omega, (fun q hq => by rw [hy.2.2.2] at hq; cases hq), hst⟩
  have hl := lv_entry (As.map (rv_cv ad)) (n := X.2.2.2.1) (by rw [rv_sl]; exact hn)
  rw [rv_args] at hl
  rw [lg_entry_eq]
  refine hgo p l e _ s m _ below meth c E _ C ad s.heap [] _ 0 0 hW va_S.rf hl (by show 0 + rv_len S ≤ 1 + rv_len S; omega) (by show 0 + rv_sz S ≤ 6 + rv_sz S; omega) (fun ad' H' locs' ls' m1 m2 g1 g0 g2 g3 g4 g5 g6 => ?_)
  have e0 : ad' = ad := g0 rfl
  subst e0
  have e1 : m1 = 0 := by omega
  have e2 : m2 = 0 := by omega
  subst e1; subst e2
  obtain ⟨sa, hsa⟩ := hstr E s hEnv
  have hown : s.vm.findClass RX12 = some m.cls := by rw [← hX]; exact C.2.2.2.2.1
  have hat : ∀ w ∈ rv_atN, w.before (As.map (rv_cv ad')).toArray s = true := fun w hw => by
    obtain ⟨h1, h2⟩ := rv_atS_in w hw
    rcases h2 with h2 | h2
    · exact C.2.2.2.2.2.1 _ (rv_wN_in h1 h2)
    · exact rv_nest_use h2 (hEnv.2.1 w h1 h2)
  have hxx : ∀ t : State, s.vm.Alike t.vm → H'.size ≤ t.heap.size → (∀ q : Nat, q < H'.size → t.heap[q]? = H'[q]?) → vx_X (fun _ : Unit => True) (fun En _ t => En = rv_nse ∧ rv_Wd E ad' S t.heap) (rv_A E) rv_nse s t := fun t _ hz hk => ⟨(), trivial, ⟨rfl, g2.1.kept (fun k q hq => hk q.1 ((g2.1 k q hq).lt)), g2.2⟩, Nat.le_trans g3.1 hz, fun q h1 h2 => (hk q (Nat.lt_of_lt_of_le h1 g3.1)).trans (g3.2.1 q h1 h2)⟩
  have hlk : (Cond.classLink RX12 108 rv_nse).before (As.map (rv_cv ad')).toArray s = true := C.2.2.2.2.2.1 _ (rw6 140 (by decide +kernel) rfl)
  have hini : (Cond.initialized rv_nse).before (As.map (rv_cv ad')).toArray s = true := C.2.2.2.2.2.1 _ (rw1 19 (by decide +kernel) rfl)
  have hfin : ∀ (pq q : Nat) (ce : Cell) (H1 : Heap) (locs1 : List Loc) (ls1 : Array Slot), decode X.2.1 pq = .ok (.athrow, 1) → H1[q]? = some ce → ce.vm = .none → s.vm.findClass rv_nse = some ce.cls → H'.size ≤ H1.size → (∀ x : Nat, x < H'.size → H1[x]? = H'[x]?) → va_S (rv_A E) s.heap H1 locs1 → W p l e ({ frames := 8, cells := 1, slots := 6, locals := 512 } : Room) s m (As.map (rv_cv ad')).toArray below meth c H1 locs1 (0 + 1) (0 + 6) (vx_MQ below (va_Qi (fun (_ : Int32) (_ : Unit) => False) (fun _ _ => True) (rv_A E)) (vx_X (fun _ : Unit => True) (fun En _ t => En = rv_nse ∧ rv_Wd E ad' S t.heap) (rv_A E)) (As.map (rv_cv ad')).toArray s 1 6 (rv_A E)) (F0 m pq ls1 (.ref q :: [])) := fun pq q ce H1 locs1 ls1 d9 hq hv hcl hz hk hS1 =>
    rv_athrow C.1 C.2.1 d9 (vx_out (fun x hx => (hnt x hx).elim) C.2.2.2.2.2.2.1 hq hv hcl (fun t ht hal => hxx t hal (by rw [ht]; exact hz) (fun x hx => by rw [ht]; exact hk x hx)) hS1.2.2 (Nat.le_refl _) (Nat.le_refl _))
  rcases dr with ⟨d4, d6, d9⟩ | ⟨d4, d6, d9⟩
  · exact rv_makeS (own := RX12) (cls := rv_nse) (Sp := rv_rte) (names := rv_chain) (ix := 13) (bs := prog_27_method_4_code) (rest := []) C.1 C.2.1 hst hown (by decide +kernel) (by decide +kernel) (by decide +kernel) rv_pasN hlk hini hsa hat rv_atS_ot hEnv.2.2.2.2.2.2.2.1 hEnv.2.2.2.2.2.2.2.2.1 g3 (by rw [C.2.2.2.1]; exact g4.1) d0 d3 d4 d6 (by decide) (by decide) (by decide) (by decide) (fun q ce H1 hq hv hcl hz hk hS1 => hfin (pcr + 9) q ce H1 _ ls' d9 hq hv hcl hz hk hS1)
  · exact rv_makeW (own := RX12) (cls := rv_nse) (Sp := rv_rte) (names := rv_chain) (ix := 13) (bs := prog_27_method_4_code) (rest := []) C.1 C.2.1 hst hown (by decide +kernel) (by decide +kernel) (by decide +kernel) rv_pasN hlk hini hsa hat rv_atS_ot hEnv.2.2.2.2.2.2.2.1 hEnv.2.2.2.2.2.2.2.2.1 g3 (by rw [C.2.2.2.1]; exact g4.1) d0 d3 d4 d6 (by decide) (by decide) (by decide) (by decide) (fun q ce H1 hq hv hcl hz hk hS1 => hfin (pcr + 10) q ce H1 _ ls' d9 hq hv hcl hz hk hS1)
/-! the world after what was thrown: as it was, one cell of six places made outside of it -/
def rv_wst (S : rvS) : rvS := rv_sI (rv_sI S 60 0 (S.2.1 60 0 + 1)) 60 1 (S.2.1 60 1 + 6)
def rv_wok (S : rvS) : Bool := decide (0 ≤ (S.2.1 60 0).toInt ∧ (S.2.1 60 0).toInt < 100000 ∧ 0 ≤ (S.2.1 60 1).toInt ∧ (S.2.1 60 1).toInt < 1000000)
theorem rv_addI {x : Int32} {k : Int32} {K : Int} (hk : k.toInt = K) (h0 : 0 ≤ K) (h1 : K < 10) (h : 0 ≤ x.toInt ∧ x.toInt < 1000000) : (x + k).toNatClampNeg = x.toNatClampNeg + K.toNat := by
  have e : (x + k).toInt = x.toInt + K := by
    rw [Int32.toInt_add, hk]
    simp only [Int.bmod]
    split <;> omega
  show (x + k).toInt.toNat = x.toInt.toNat + K.toNat
  rw [e]
  omega
theorem rv_wst_len {S : rvS} (h : rv_wok S = true) : rv_len (rv_wst S) = rv_len S + 1 := by
  have h := of_decide_eq_true h
  have e : (S.2.1 60 0 + 1).toNatClampNeg = (S.2.1 60 0).toNatClampNeg + 1 := rv_addI (K := 1) rfl (by decide) (by decide) ⟨h.1, by omega⟩
  show S.1.length + (S.2.1 60 0 + 1).toNatClampNeg = S.1.length + (S.2.1 60 0).toNatClampNeg + 1
  rw [e, Nat.add_assoc]
theorem rv_wst_sz {S : rvS} (h : rv_wok S = true) : rv_sz (rv_wst S) = rv_sz S + 6 := by
  have h := of_decide_eq_true h
  have e : (S.2.1 60 1 + 6).toNatClampNeg = (S.2.1 60 1).toNatClampNeg + 6 := rv_addI (K := 6) rfl (by decide) (by decide) ⟨h.2.2.1, by omega⟩
  show (S.1.map (fun q => q.2)).sum + (S.2.1 60 1 + 6).toNatClampNeg = (S.1.map (fun q => q.2)).sum + (S.2.1 60 1).toNatClampNeg + 6
  rw [e, Nat.add_assoc]
theorem rv_wst_W {S : rvS} (aC : Nat → ClassId) (ad : Nat → Nat) : rv_W aC ad (rv_wst S) = rv_W aC ad S := by
  unfold rv_W
  show S.1.mapIdx _ = _
  congr 1
  funext j q
  have h1 := (rv_sI_off S 60 0 (S.2.1 60 0 + 1)).2 (64 + j) (by omega)
  have h2 := (rv_sI_off (rv_sI S 60 0 (S.2.1 60 0 + 1)) 60 1 (S.2.1 60 1 + 6)).2 (64 + j) (by omega)
  rw [rv_cell_off (S' := rv_wst S) (S := S) ⟨h2.1.trans h1.1, h2.2.1.trans h1.2.1, h2.2.2.trans h1.2.2⟩ q]
theorem rv_wst_Wd {E : rvE} {ad : Nat → Nat} {S : rvS} {H : Heap} (h : rv_Wd E ad S H) : rv_Wd E ad (rv_wst S) H := by
  unfold rv_Wd
  rw [rv_wst_W]
  exact h
/-! the law's helpers: contracts of bodies with a table, calls of them -/
def rv_hh : List (Nat × Nat × Nat × Nat) := [(0, 10, 13, 13)]
def rv_wsW (y : MethodName) (X : rvM) : List Cond := .codeWith y X.2.1 X.2.2.2.1 X.2.2.1 rv_hh :: rv_wN
def rv_MetW (y : MethodName) (X : rvM) (d : Nat) (As : List Value) (S : rvS) (r : Option Value) (S' : rvS) : Prop :=
  rv_up X.2.2.2.2.2.1 S S' ∧ rv_nar X r ∧ ∀ (l : Launch) (E : rvE) (ad : Nat → Nat) (sz : Nat), l.stackTraces = false → Met l y (rv_wsW y X) (rv_rm d S S') (rv_Pc E ad sz S As) (rv_Q E ad S r S') (rv_len S' - rv_len S) (rv_sz S' - rv_sz S) (rv_A E)
theorem rv_MetW.of {y : MethodName} {X : rvM} {d : Nat} {As : List Value} {S S' : rvS} {v : Int32} (hy : plainName y.cls = true ∧ X.1 = y.cls ∧ X.2.2.2.2.1 = false ∧ X.2.2.2.2.2.2 = none) (hn : (lg_sl As).length ≤ X.2.2.2.1) (hX : X.2.2.1 = some .int) (h : rv_Ev X d 0 (lv_args 0 As) [] S (some (.int v)) S') : rv_MetW y X d As S (some (.int v)) S' := by
  obtain ⟨hup, pcr, lvr, hgo, hdr, hnar⟩ := h
  refine ⟨hup, hnar, fun l E ad sz hst => ?_⟩
  refine va_MetW (cc := X.2.1) (maxL := X.2.2.2.1) (ret := X.2.2.1) (hh := rv_hh) hy.1 rfl ?_
  intro p e s m args below meth c s₁ B hml hv
  obtain ⟨rfl, hsz, hEnv, hW⟩ := hv
  have hts := atoms_spec (ws := rv_wsW y X) B.pre
  have C : rv_Cx X d p l (rv_rm d S S') s m (As.map (rv_cv ad)).toArray meth c E := ⟨B.exec, B.bytes, B.returns, hml, by rw [hy.2.1]; exact findClass_of_methodNamed B.named, fun w hw => hts w (List.mem_cons_of_mem _ hw), B.notSynchronized, (fun z => by rw [hy.2.2.1] at z; cases z), hEnv, Nat.le_refl _, Nat.le_refl _, (fun q hq => by rw [hy.2.2.2] at hq; cases hq), hst⟩
  have hl := lv_entry (As.map (rv_cv ad)) (n := X.2.2.2.1) (by rw [rv_sl]; exact hn)
  rw [rv_args] at hl
  rw [lg_entry_eq]
  refine hgo p l e (rv_rm d S S') s m _ below meth c E _ C ad s.heap [] _ 0 0 hW va_S.rf hl (by have := hup.2.2.1; show 0 + rv_len S' ≤ (rv_len S' - rv_len S) + rv_len S; omega) (by have := hup.2.2.2; show 0 + rv_sz S' ≤ (rv_sz S' - rv_sz S) + rv_sz S; omega) (fun ad' H' locs' ls' m1 m2 g1 g0 g2 g3 g4 g5 g6 => ?_)
  have e1 : m1 = rv_len S' - rv_len S := by omega
  have e2 : m2 = rv_sz S' - rv_sz S := by omega
  subst e1; subst e2
  have hok : rv_Ok ad S S' ad' := ⟨g1, g0⟩
  exact W.zret C.1 C.2.1 (B.returns.trans hX) (hnar _ v hX rfl) (fun t ht hWt => ⟨⟨v, ad', rfl, ⟨rfl, hok⟩, by show rv_Wd E ad' S' t.heap; rw [ht]; exact g2⟩, g3.F ht⟩) g3.2.2 hdr B.notSynchronized
/-- what the three helpers' bodies are -/
def rv_hlp (cc : ByteArray) (ix : Nat) : Prop := decode cc 0 = .ok (.aload_n 3, 1) ∧ decode cc 1 = .ok (.iconst 0, 1) ∧ decode cc 2 = .ok (.aload_n 0, 1) ∧ decode cc 3 = .ok (.iload_n 1, 1) ∧ decode cc 4 = .ok (.iload_n 2, 1) ∧ decode cc 5 = .ok (.invokevirtual ix, 3) ∧ decode cc 8 = .ok (.i2l, 1) ∧ decode cc 9 = .ok (.lastore, 1) ∧ decode cc 10 = .ok (.goto 7, 3) ∧
  decode cc 13 = .ok (.astore 4, 2) ∧ decode cc 15 = .ok (.iconst 1, 1) ∧ decode cc 16 = .ok (.ireturn, 1) ∧ decode cc 17 = .ok (.iconst 0, 1) ∧ decode cc 18 = .ok (.ireturn, 1)
set_option maxHeartbeats 4000000 in
theorem rv_MetW.thr {y yC : MethodName} {X XC : rvM} {d ix a0 a3 n0 : Nat} {x1 x2 : Int32} {S : rvS} (hy : plainName y.cls = true ∧ X.1 = y.cls ∧ X.2.2.2.2.1 = false ∧ X.2.2.2.2.2.2 = none) (hX1 : X.1 = RL) (hX : X.2.2.1 = some .int) (hn : X.2.2.2.1 = 5) (hal : X.2.2.2.2.2.1 = true) (hd : 8 < d)
    (hok : rv_wok S = true) (hM : rv_MetX yC XC [.ref a0, .int x1, .int x2] S) (hf : rv_is S a0 (10, n0)) (hc : rv_R 10 = yC.cls) (hL : rv_LV RL ix yC XC 2) (hl5 : Cond.methodLink RL ix yC ∈ rv_wN) (hb : rv_hlp X.2.1 ix) : rv_MetW y X d [.ref a0, .int x1, .int x2, .ref a3] S (some (.int 1)) (rv_wst S) := by
  have e1 : rv_len (rv_wst S) - rv_len S = 1 := by rw [rv_wst_len hok]; omega
  have e2 : rv_sz (rv_wst S) - rv_sz S = 6 := by rw [rv_wst_sz hok]; omega
  have u1 := rv_wst_len hok
  have u2 := rv_wst_sz hok
  have hup : rv_up X.2.2.2.2.2.1 S (rv_wst S) := ⟨fun z => absurd (hal.symm.trans z) (by decide), Nat.le_refl _, by omega, by omega⟩
  refine ⟨hup, (fun ty v h1 h2 => by rw [hX] at h1; cases h1; cases h2; rfl), fun l E ad sz hst => ?_⟩
  unfold rv_rm
  rw [e1, e2]
  refine va_MetW (cc := X.2.1) (maxL := X.2.2.2.1) (ret := X.2.2.1) (hh := rv_hh) hy.1 rfl ?_
  intro p e s m args below meth c s₁ B hml hv
  obtain ⟨rfl, hsz, hEnv, hW⟩ := hv
  have hts := atoms_spec (ws := rv_wsW y X) B.pre
  have htab : c.exceptionTable.toList = tableOf rv_hh := vx_table (x := y) B (hts _ List.mem_cons_self)
  have C : rv_Cx X d p l ({ frames := d, cells := 1, slots := 6, locals := 64 * d } : Room) s m (([.ref a0, .int x1, .int x2, .ref a3] : List Value).map (rv_cv ad)).toArray meth c E := ⟨B.exec, B.bytes, B.returns, hml, by rw [hy.2.1]; exact findClass_of_methodNamed B.named, fun w hw => hts w (List.mem_cons_of_mem _ hw), B.notSynchronized, (fun z => by rw [hy.2.2.1] at z; cases z), hEnv, Nat.le_refl _, Nat.le_refl _, (fun q hq => by rw [hy.2.2.2] at hq; cases hq), hst⟩
  have hl := lv_entry (([.ref a0, .int x1, .int x2, .ref a3] : List Value).map (rv_cv ad)) (n := X.2.2.2.1) (by rw [rv_sl, hn]; exact Nat.le_of_ble_eq_true rfl)
  rw [rv_args] at hl
  rw [lg_entry_eq]
  obtain ⟨d0, d1, d2, d3, d4, d5, d8, d9, d10, d13, d15, d16, d17, d18⟩ := hb
  have hown : s.vm.findClass RL = some m.cls := by rw [← hX1]; exact C.2.2.2.2.1
  obtain ⟨⟨l1, l2, l3, l4, -⟩, hyC, hmlC⟩ := hL
  have hcast : (Cond.castable rv_nse rv_nse).before (([.ref a0, .int x1, .int x2, .ref a3] : List Value).map (rv_cv ad)).toArray s = true := rv_nest_use (w := Cond.castable rv_nse rv_nse) rfl (hEnv.2.1 _ (rn6 142 (by decide +kernel)) rfl)
  refine lv_aload_n C.1 C.2.1 d0 rfl (lv_at hl 3 rfl) ?_
  refine lv_iconst C.1 C.2.1 d1 rfl ?_
  refine lv_aload_n C.1 C.2.1 d2 rfl (lv_at hl 0 rfl) ?_
  refine lv_iload_n C.1 C.2.1 d3 rfl (lv_at hl 1 rfl) ?_
  refine lv_iload_n C.1 C.2.1 d4 rfl (lv_at hl 2 rfl) ?_
  have hp : PreV s s.heap yC.cls (ad a0) (rv_Pc E ad s.heap.size S [.ref a0, .int x1, .int x2]) (([.int x1, .int x2] : List Value).map (rv_cv ad)) := ⟨rv_blind, by
    have := va_recv hEnv.1 hW.1 (rv_cl (c := 10) (by decide)) (by have := rv_W_get (aC := E.2.1) (ad := ad) hf; rw [rv_cellO (by decide)] at this; exact this)
    rw [← hc]; exact this, rv_pre hEnv va_S.rf hW⟩
  have hR : 8 + 1 ≤ d ∧ 8 + (XC.2.2.2.1 + 11) + 512 ≤ 64 * d := ⟨by omega, by omega⟩
  refine vx_calli (vx_runV (C := yC.cls) ⟨C.1, C.2.1, C.2.2.2.1, hown, C.2.2.2.2.2.1⟩ (hM l E ad s.heap.size hst) ⟨callB_of (ws' := rv_wN) 2 C.2.2.2.2.2.1 (rv_good l1) rfl rfl rfl (C.2.2.2.2.2.1 _ l4) (C.2.2.2.2.2.1 _ hl5) hyC hR, C.2.2.2.2.2.1 _ l2, C.2.2.2.2.2.1 _ l3⟩ hp rfl rfl hl.1 rfl (Nat.le_of_ble_eq_true rfl) d5 ⟨Nat.le_refl _, Nat.le_refl _⟩) va_S.rf (fun _ _ h => h) (fun _ h => h) (fun _ _ h => h) ?_ (fun _ _ _ _ _ _ _ hp => hp.elim)
  intro En ce q9 u t H1 locs1 ht hAl _ hE hz hk hS1 hcell hcv hcls
  obtain ⟨rfl, hWd⟩ := hE
  refine vx_catch (own := RL) (name := rv_nse) (E := rv_nse) hown [] ⟨0, 10, 13, 13⟩ [] (by rw [htab]; rfl) (fun z hz => absurd hz List.not_mem_nil) (by decide) (by decide) (C.2.2.2.2.2.1 _ (rw6 135 (by decide +kernel) rfl)) hcast hcell hcv hcls ?_
  refine lv_astore C.1 C.2.1 d13 (i := 4) hl (by rw [hn]; decide) rfl (fun ls' hl' => ?_)
  refine lv_iconst C.1 C.2.1 d15 (v := 1) rfl ?_
  exact W.zret C.1 C.2.1 (B.returns.trans hX) rfl (fun t' ht' hWt => ⟨⟨1, ad, rfl, ⟨rfl, fun _ _ => rfl, fun _ => rfl⟩, by show rv_Wd E ad (rv_wst S) t'.heap; rw [ht', ← ht]; exact rv_wst_Wd hWd⟩, hS1.F ht'⟩) hS1.2.2 d16 B.notSynchronized
/-- how a method with a table is reached -/
def rv_LW (y : MethodName) (Y : rvM) (n : Nat) : Prop := (Cond.codeWith y Y.2.1 Y.2.2.2.1 Y.2.2.1 rv_hh ∈ rv_wN ∧ Cond.static y ∈ rv_wN ∧ Cond.initialized y.cls ∈ rv_wN) ∧ (y.cls ≠ "java/lang/invoke/MethodHandle" ∧ y.cls ≠ "java/lang/invoke/VarHandle" ∧ (parseMethodDescriptor y.desc).map (fun d => d.parameters.length) = some n) ∧ Y.2.2.2.1 + 19 ≤ 64
section RVW
variable {X : rvM} {d pc : Nat} {lv : List (Nat × Value)} {st : List Value} {S S' : rvS} {r : Option Value}
theorem rv_goW {y : MethodName} {Y : rvM} {ix d0 : Nat} {As : List Value} {v : Option Value} {S1 : rvS} (hok : rv_okl lv st S S1) (hM : rv_MetW y Y d0 As S v S1) (hd : d0 < d) (hw : (st.map fun v => v.category).sum ≤ 8) (hL : rv_LW y Y As.length) (hl5 : Cond.methodLink X.1 ix y ∈ rv_wN) (hdg : decode X.2.1 pc = .ok (.invokestatic ix, 3)) : rv_Go X d pc lv (As.reverse ++ st) S (pc + 3) lv (v.toList ++ st) S1 := by
  obtain ⟨hup, hnar, hMet⟩ := hM
  obtain ⟨⟨l1, l2, l4⟩, hy, hml⟩ := hL
  refine rv_run (y := y) (Y := Y) (As := As) hok ⟨(fun h => by cases h), hup.2⟩ (fun p l e R s m args below meth c0 E C ad H locs ls n1 n2 hW hS hls b1 b2 => ?_)
  have hp : PreS s H (rv_Pc E ad H.size S As) (As.map (rv_cv ad)) := ⟨rv_blind, rv_pre C.2.2.2.2.2.2.2.2.1 hS hW⟩
  have hstk : (As.reverse ++ st).map (rv_cv ad) = (As.map (rv_cv ad)).reverse ++ st.map (rv_cv ad) := by simp
  have hcat : ((st.map (rv_cv ad)).map fun v => v.category) = st.map fun v => v.category := by simp [Function.comp_def, rv_cv_cat]
  have r1 : d ≤ R.frames := C.2.2.2.2.2.2.2.2.2.1
  have r2 : 64 * d ≤ R.locals := C.2.2.2.2.2.2.2.2.2.2.1
  have hR : d0 + 1 ≤ R.frames ∧ 8 + (Y.2.2.2.1 + 11) + 64 * d0 ≤ R.locals := ⟨by omega, by omega⟩
  have hG : GoodIn rv_wN (va_wsS X.1 ix y (rv_wsW y Y)) := fun w hw => by
    unfold va_wsS rv_wsW at hw
    simp only [List.cons_append, List.nil_append, List.mem_cons] at hw
    rcases hw with rfl | rfl | rfl | rfl | hw
    · exact rv_wN_good _ hl5
    · exact rv_wN_good _ l2
    · exact rv_wN_good _ l4
    · exact rv_wN_good _ l1
    · exact rv_wN_good _ hw
  rw [hstk]
  exact vx_runSW (bytes := Y.2.1) (maxL := Y.2.2.2.1) (ret := Y.2.2.1) (hh := rv_hh) ⟨C.1, C.2.1, C.2.2.2.1, C.2.2.2.2.1, C.2.2.2.2.2.1⟩ (hMet l E ad H.size C.2.2.2.2.2.2.2.2.2.2.2.2) (vx_cwSW (ws' := rv_wN) As.length C.2.2.2.2.2.1 hG rfl rfl rfl hy hR) hp rfl (by simp) hls rfl (by show 2 * 0 + _ ≤ 8; rw [hcat]; omega) hdg ⟨b1, b2⟩
theorem re_cW {y : MethodName} {Y : rvM} {ix d0 : Nat} (As : List Value) {v : Option Value} {S1 : rvS} {st0 : List Value} (hM : rv_MetW y Y d0 As S v S1) (hok : rv_okl lv st S S1) (hup : rv_up X.2.2.2.2.2.1 S S1) (hd : d0 < d) (hw : (st.map fun v => v.category).sum ≤ 8) (hL : rv_LW y Y As.length) (hl5 : Cond.methodLink X.1 ix y ∈ rv_wN) (hst : st0 = As.reverse ++ st) (hdg : decode X.2.1 pc = .ok (.invokestatic ix, 3)) (k : rv_Ev X d (pc + 3) lv (v.toList ++ st) S1 r S') : rv_Ev X d pc lv st0 S r S' := by
  subst hst
  exact rv_Ev.go hup (rv_goW hok hM hd hw hL hl5 hdg) k
end RVW
/-- a helper's return -/
theorem rv_hret {yC : MethodName} {X XC : rvM} {d dC ix a0 a3 n0 : Nat} {x1 x2 v : Int32} {S S1 : rvS} (hX1 : X.1 = RL) (hX : X.2.2.1 = some .int) (hal : X.2.2.2.2.2.1 = true) (hM : rv_Met yC XC dC [.ref a0, .int x1, .int x2] S (some (.int v)) S) (hd : dC < d) (hf : rv_is S a0 (10, n0)) (hc : rv_R 10 = yC.cls) (hL : rv_LV RL ix yC XC 2) (hu : rv_uL S a3 0 v.toInt64 = some S1) (hb : rv_hlp X.2.1 ix) : rv_Ev X d 0 (lv_args 0 [.ref a0, .int x1, .int x2, .ref a3]) [] S (some (.int 0)) S1 := by
  obtain ⟨d0, d1, d2, d3, d4, d5, d8, d9, d10, d13, d15, d16, d17, d18⟩ := hb
  refine re_aloadn (pc := 0) 3 d0 rfl ?_
  refine re_iconst (pc := 1) 0 d1 rfl ?_
  refine re_aloadn (pc := 2) 0 d2 rfl ?_
  refine re_iloadn (pc := 3) 1 d3 rfl ?_
  refine re_iloadn (pc := 4) 2 d4 rfl ?_
  refine re_cV (pc := 5) (st := [.int 0, .ref a3]) [.int x1, .int x2] hM (rv_okl.k ⟨rfl, rfl⟩) (rv_up.rf _ _) hd hf ⟨by decide, hc⟩ (Nat.le_of_ble_eq_true rfl) (by rw [hX1]; exact hL) rfl d5 ?_
  refine re_i2l (pc := 8) d8 ?_
  refine re_uL (pc := 9) hu d9 ?_
  refine re_goto (pc := 10) 17 d10 (by decide) ?_
  refine re_iconst (pc := 17) 0 d17 rfl ?_
  exact re_iret (pc := 18) (fun ty hty => by rw [hX] at hty; cases hty; rfl) d18

theorem mxX12_who (n : Nat) (S : rvS) (a0 : Nat) (x1 x2 : Int32) (h : ftX12_who n S a0 x1 x2 = some ()) : rv_MetX yX12_who mX12_who [.ref a0, .int x1, .int x2] S :=
  rv_MetX.of (is := 110) (text := "no such WHO or question") ⟨by decide +kernel, rfl, rfl, rfl⟩ rfl (by decide) (Nat.le_of_ble_eq_true rfl) (fun E U hEnv => hEnv.2.2.2.2.2.2.2.2.2.1) (by decide +kernel) (by decide +kernel) (Or.inl ⟨by decide +kernel, by decide +kernel, by decide +kernel⟩) (etX12_who n S a0 x1 x2 h)
theorem lVL_7h : rv_LV RL 7 yX12_who mX12_who 2 := ⟨⟨wcX12_who, (rw6 137 (by decide +kernel) rfl), (rw6 138 (by decide +kernel) rfl), (rw1 1 (by decide +kernel) rfl), Or.inl (rw6 136 (by decide +kernel) rfl)⟩, ⟨by decide +kernel, by decide +kernel, by decide +kernel⟩, by decide⟩
abbrev cL_who : ByteArray := method_3_code
def yL_who : MethodName := ⟨RL, "who", "(LRimCoins;II[J)I"⟩
abbrev mL_who : rvM := (RL, cL_who, (some FieldType.int), 5, false, true, none)
theorem hpL_who : rv_hlp cL_who 7 := ⟨by decide +kernel, by decide +kernel, by decide +kernel, by decide +kernel, by decide +kernel, by decide +kernel, by decide +kernel, by decide +kernel, by decide +kernel, by decide +kernel, by decide +kernel, by decide +kernel, by decide +kernel, by decide +kernel⟩
theorem lL_who : rv_LW yL_who mL_who 4 := ⟨⟨(rw6 134 (by decide +kernel) rfl), (rw6 133 (by decide +kernel) rfl), (rw1 0 (by decide +kernel) rfl)⟩, ⟨by decide +kernel, by decide +kernel, by decide +kernel⟩, by decide⟩
noncomputable def fnL_who (n : Nat) (S : rvS) (a0 : Nat) (x1 x2 : Int32) (a3 : Nat) : Option (Int32 × rvS) :=
  (rv_ck S 10 a0).bind fun _ => if ftX12_who n S a0 x1 x2 = some () then (if rv_wok S = true then some (1, rv_wst S) else none) else (fnX12_who n S a0 x1 x2).bind fun v => (rv_uL S a3 0 v.toInt64).bind fun S1 => some (0, S1)
theorem metL_who (n : Nat) (S : rvS) (a0 : Nat) (x1 x2 : Int32) (a3 : Nat) (r : Int32) (S' : rvS) (h : fnL_who n S a0 x1 x2 a3 = some (r, S')) : rv_MetW yL_who mL_who 20 [.ref a0, .int x1, .int x2, .ref a3] S (some (.int r)) S' := by
  unfold fnL_who at h
  obtain ⟨u, g1, h⟩ := rv_b_e h
  rcases rv_if_e h with ⟨g2, h⟩ | ⟨g2, h⟩
  · rcases rv_if_e h with ⟨g3, h⟩ | ⟨g3, h⟩
    · cases h
      exact rv_MetW.thr (ix := 7) ⟨by decide +kernel, rfl, rfl, rfl⟩ rfl rfl rfl rfl (by decide) g3 (mxX12_who n S a0 x1 x2 g2) (rv_ck_e g1) rfl lVL_7h (rw6 136 (by decide +kernel) rfl) hpL_who
    · cases h
  · obtain ⟨v, g3, h⟩ := rv_b_e h
    obtain ⟨S1, g4, h⟩ := rv_b_e h
    cases h
    exact rv_MetW.of ⟨by decide +kernel, rfl, rfl, rfl⟩ (Nat.le_of_ble_eq_true rfl) rfl (rv_hret (ix := 7) rfl rfl rfl (metX12_who n S a0 x1 x2 v g3) (by decide) (rv_ck_e g1) rfl lVL_7h g4 hpL_who)

theorem mxX12_coin (n : Nat) (S : rvS) (a0 : Nat) (x1 x2 : Int32) (h : ftX12_coin n S a0 x1 x2 = some ()) : rv_MetX yX12_coin mX12_coin [.ref a0, .int x1, .int x2] S :=
  rv_MetX.of (is := 160) (text := "no such COIN or question") ⟨by decide +kernel, rfl, rfl, rfl⟩ rfl (by decide) (Nat.le_of_ble_eq_true rfl) (fun E U hEnv => hEnv.2.2.2.2.2.2.2.2.2.2.1) (by decide +kernel) (by decide +kernel) (Or.inl ⟨by decide +kernel, by decide +kernel, by decide +kernel⟩) (etX12_coin n S a0 x1 x2 h)
theorem lVL_15h : rv_LV RL 15 yX12_coin mX12_coin 2 := ⟨⟨wcX12_coin, (rw6 212 (by decide +kernel) rfl), (rw6 213 (by decide +kernel) rfl), (rw1 1 (by decide +kernel) rfl), Or.inl (rw6 211 (by decide +kernel) rfl)⟩, ⟨by decide +kernel, by decide +kernel, by decide +kernel⟩, by decide⟩
abbrev cL_coin : ByteArray := method_4_code
def yL_coin : MethodName := ⟨RL, "coin", "(LRimCoins;II[J)I"⟩
abbrev mL_coin : rvM := (RL, cL_coin, (some FieldType.int), 5, false, true, none)
theorem hpL_coin : rv_hlp cL_coin 15 := ⟨by decide +kernel, by decide +kernel, by decide +kernel, by decide +kernel, by decide +kernel, by decide +kernel, by decide +kernel, by decide +kernel, by decide +kernel, by decide +kernel, by decide +kernel, by decide +kernel, by decide +kernel, by decide +kernel⟩
theorem lL_coin : rv_LW yL_coin mL_coin 4 := ⟨⟨(rw6 210 (by decide +kernel) rfl), (rw6 209 (by decide +kernel) rfl), (rw1 0 (by decide +kernel) rfl)⟩, ⟨by decide +kernel, by decide +kernel, by decide +kernel⟩, by decide⟩
noncomputable def fnL_coin (n : Nat) (S : rvS) (a0 : Nat) (x1 x2 : Int32) (a3 : Nat) : Option (Int32 × rvS) :=
  (rv_ck S 10 a0).bind fun _ => if ftX12_coin n S a0 x1 x2 = some () then (if rv_wok S = true then some (1, rv_wst S) else none) else (fnX12_coin n S a0 x1 x2).bind fun v => (rv_uL S a3 0 v.toInt64).bind fun S1 => some (0, S1)
theorem metL_coin (n : Nat) (S : rvS) (a0 : Nat) (x1 x2 : Int32) (a3 : Nat) (r : Int32) (S' : rvS) (h : fnL_coin n S a0 x1 x2 a3 = some (r, S')) : rv_MetW yL_coin mL_coin 20 [.ref a0, .int x1, .int x2, .ref a3] S (some (.int r)) S' := by
  unfold fnL_coin at h
  obtain ⟨u, g1, h⟩ := rv_b_e h
  rcases rv_if_e h with ⟨g2, h⟩ | ⟨g2, h⟩
  · rcases rv_if_e h with ⟨g3, h⟩ | ⟨g3, h⟩
    · cases h
      exact rv_MetW.thr (ix := 15) ⟨by decide +kernel, rfl, rfl, rfl⟩ rfl rfl rfl rfl (by decide) g3 (mxX12_coin n S a0 x1 x2 g2) (rv_ck_e g1) rfl lVL_15h (rw6 211 (by decide +kernel) rfl) hpL_coin
    · cases h
  · obtain ⟨v, g3, h⟩ := rv_b_e h
    obtain ⟨S1, g4, h⟩ := rv_b_e h
    cases h
    exact rv_MetW.of ⟨by decide +kernel, rfl, rfl, rfl⟩ (Nat.le_of_ble_eq_true rfl) rfl (rv_hret (ix := 15) rfl rfl rfl (metX12_coin n S a0 x1 x2 v g3) (by decide) (rv_ck_e g1) rfl lVL_15h g4 hpL_coin)

theorem mxX12_debt (n : Nat) (S : rvS) (a0 : Nat) (x1 x2 : Int32) (h : ftX12_debt n S a0 x1 x2 = some ()) : rv_MetX yX12_debt mX12_debt [.ref a0, .int x1, .int x2] S :=
  rv_MetX.of (is := 298) (text := "no such DEBT or question") ⟨by decide +kernel, rfl, rfl, rfl⟩ rfl (by decide) (Nat.le_of_ble_eq_true rfl) (fun E U hEnv => hEnv.2.2.2.2.2.2.2.2.2.2.2) (by decide +kernel) (by decide +kernel) (Or.inr ⟨by decide +kernel, by decide +kernel, by decide +kernel⟩) (etX12_debt n S a0 x1 x2 h)
theorem lVL_18h : rv_LV RL 18 yX12_debt mX12_debt 2 := ⟨⟨wcX12_debt, (rw6 222 (by decide +kernel) rfl), (rw6 223 (by decide +kernel) rfl), (rw1 1 (by decide +kernel) rfl), Or.inl (rw6 221 (by decide +kernel) rfl)⟩, ⟨by decide +kernel, by decide +kernel, by decide +kernel⟩, by decide⟩
abbrev cL_debt : ByteArray := method_5_code
def yL_debt : MethodName := ⟨RL, "debt", "(LRimCoins;II[J)I"⟩
abbrev mL_debt : rvM := (RL, cL_debt, (some FieldType.int), 5, false, true, none)
theorem hpL_debt : rv_hlp cL_debt 18 := ⟨by decide +kernel, by decide +kernel, by decide +kernel, by decide +kernel, by decide +kernel, by decide +kernel, by decide +kernel, by decide +kernel, by decide +kernel, by decide +kernel, by decide +kernel, by decide +kernel, by decide +kernel, by decide +kernel⟩
theorem lL_debt : rv_LW yL_debt mL_debt 4 := ⟨⟨(rw6 220 (by decide +kernel) rfl), (rw6 219 (by decide +kernel) rfl), (rw1 0 (by decide +kernel) rfl)⟩, ⟨by decide +kernel, by decide +kernel, by decide +kernel⟩, by decide⟩
noncomputable def fnL_debt (n : Nat) (S : rvS) (a0 : Nat) (x1 x2 : Int32) (a3 : Nat) : Option (Int32 × rvS) :=
  (rv_ck S 10 a0).bind fun _ => if ftX12_debt n S a0 x1 x2 = some () then (if rv_wok S = true then some (1, rv_wst S) else none) else (fnX12_debt n S a0 x1 x2).bind fun v => (rv_uL S a3 0 v.toInt64).bind fun S1 => some (0, S1)
theorem metL_debt (n : Nat) (S : rvS) (a0 : Nat) (x1 x2 : Int32) (a3 : Nat) (r : Int32) (S' : rvS) (h : fnL_debt n S a0 x1 x2 a3 = some (r, S')) : rv_MetW yL_debt mL_debt 20 [.ref a0, .int x1, .int x2, .ref a3] S (some (.int r)) S' := by
  unfold fnL_debt at h
  obtain ⟨u, g1, h⟩ := rv_b_e h
  rcases rv_if_e h with ⟨g2, h⟩ | ⟨g2, h⟩
  · rcases rv_if_e h with ⟨g3, h⟩ | ⟨g3, h⟩
    · cases h
      exact rv_MetW.thr (ix := 18) ⟨by decide +kernel, rfl, rfl, rfl⟩ rfl rfl rfl rfl (by decide) g3 (mxX12_debt n S a0 x1 x2 g2) (rv_ck_e g1) rfl lVL_18h (rw6 221 (by decide +kernel) rfl) hpL_debt
    · cases h
  · obtain ⟨v, g3, h⟩ := rv_b_e h
    obtain ⟨S1, g4, h⟩ := rv_b_e h
    cases h
    exact rv_MetW.of ⟨by decide +kernel, rfl, rfl, rfl⟩ (Nat.le_of_ble_eq_true rfl) rfl (rv_hret (ix := 18) rfl rfl rfl (metX12_debt n S a0 x1 x2 v g3) (by decide) (rv_ck_e g1) rfl lVL_18h g4 hpL_debt)
