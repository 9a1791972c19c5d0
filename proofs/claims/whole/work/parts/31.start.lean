/-! THE CLAIM OUT OF ONE WALK OF THE LAW'S BODY. Your part is whole_start (and what it stands on); all else here is the same for every law, but numbers. -/
def R_law : String := "RimCoinsLaw"
def lw_P (b : Addr) (xs : List Int32) (args : Array Value) (s : State) : Prop := args = #[.ref b] ∧ s.IntsAt b xs ∧ xs.length ≤ 3072 ∧ (Jvm.Cond.and given_1 narrow_1).before args s = true
def lw_Q (_ : Array Value) (s : State) (o : Outcome) (t : State) : Prop := o = .returned (some (.int 1)) ∧ Framed s o t [] 601024 7293034
def lw_Z (below : List Frame) (a : Array Value) (s : State) : State → Prop := fun t => ∃ o, t.status = .running ∧ Ended t below o ∧ lw_Q a s o t
/-- the law's own end, with 1 on the stack, nothing written that was there before, its room as the claim has it -/
theorem lw_ret {p : Program} {l : Launch} {e : Env} {s : State} {m : MethodId} {below : List Frame} {meth : Method} {c : Code} {b : Nat} (hx : p.tables.exec = Jvm.exec) (hb : c.code = code) (hr : meth.sig.returnType = ret) (hlocks : meth.locks = false) {pc : Nat} {H : Heap} {ls : Array Slot} (hdg : decode code pc = .ok (.ireturn, 1)) : W p l e room_1 s m #[Value.ref b] below meth c H [] 601024 7293034 (lw_Z below #[Value.ref b] s) (F0 m pc ls [.int 1]) := by
  intro T hT X
  obtain ⟨fs, hret, hrun, hended, hW, hframe⟩ := X.leave (v := some (.int 1)) (hlocks := hlocks) (fun h => by rw [hr] at h; cases h)
  have hmeth' : T.vm.method? m = some meth := X.method'
  refine ⟨T.setFrames fs, ?_, .returned (some (.int 1)), hrun, hended, rfl, ⟨_, rfl⟩, hW, hframe⟩
  jvm_step X.here [X.here.top, hx, hb, hdg, hmeth', hr, ret, narrow_b1]
  (try refine ⟨rfl, ?_⟩); (try refine ⟨rfl, ?_⟩)
  first | (intro acts; rw [hret _ acts rfl rfl rfl]) | rw [hret _ _ rfl rfl rfl]
  exact Steps.refl _
/-- what holds at the law's entry: the machine, the code, the tables' words (any of lw_tbl by 'hts w (by decide +kernel)'), the script of L ints xs at the cell b, what the Statement gives of the start (any of its parts by flat_of_before) -/
def lw_At (p : Program) (s : State) (m : MethodId) (meth : Method) (c : Code) (b L : Nat) (xs : Nat → Int32) : Prop :=
  p.tables.exec = Jvm.exec ∧ c.code = code ∧ meth.sig.returnType = ret ∧ c.maxLocals = 7 ∧ s.vm.findClass R_law = some m.cls ∧ (∀ w ∈ lw_tbl, w.before #[Value.ref b] s = true) ∧ va_X b L xs s s.heap ∧ b < s.heap.size ∧ meth.locks = false ∧ (Jvm.Cond.and given_1 narrow_1).before #[Value.ref b] s = true
/-! THE START: what the Statement gives of the launch's classes, as the world's surroundings -/
theorem rv_eqR {args : Array Value} {s : State} {t u : Term} {a : Nat} (h : (Cond.eq t u).before args s = true) (hu : u.eval args s none [] s = some (.ref a)) : t.eval args s none [] s = some (.ref a) := by
  cases hv : t.eval args s none [] s with
  | none => simp [Cond.before, Cond.holds, Cond.value, hv] at h
  | some w =>
    simp only [Cond.before, Cond.holds, Cond.value, hv, hu] at h
    cases w <;> simp_all
theorem rv_Zev {C n d : String} {v : Value} {A : Nat → Prop} {s : State} {args : Array Value} (h : va_Z C n d v A s s.heap) : (Term.static C n d).eval args s none [] s = some v := by
  obtain ⟨cf, kf, fi, f, a, cell, h1, h2, h3, h4, h5, h6, h7, -⟩ := h
  simp [Term.eval, State.fieldNamed?, h1, h2, h4, h5, h6, h7]
theorem rv_lenof {args : Array Value} {s : State} {t : Term} {N : Nat} (hN : N < 2 ^ 31) (h : (Term.length t).eval args s none [] s = some (.int (Int32.ofNat N))) : ∃ (a : Nat) (cell : Cell), t.eval args s none [] s = some (.ref a) ∧ s.arrayAt? a = some cell ∧ cell.slots.size = N := by
  simp only [Term.eval, Option.bind_eq_bind] at h
  cases ht : t.eval args s none [] s with
  | none => simp [ht] at h
  | some x =>
    cases x <;> simp [ht] at h
    case ref a =>
      obtain ⟨cell, hcell, h⟩ := Option.bind_eq_some_iff.mp h
      by_cases hn : cell.slots.size < 2147483648
      · rw [if_pos hn] at h
        have e : Int32.ofNat cell.slots.size = Int32.ofNat N := Value.int.inj (Option.some.inj h)
        have e2 := congrArg Int32.toNatClampNeg e
        rw [Int32.toNatClampNeg_ofNat_of_lt hn, Int32.toNatClampNeg_ofNat_of_lt hN] at e2
        exact ⟨a, cell, rfl, hcell, e2⟩
      · rw [if_neg hn] at h; cases h
theorem rv_elemof {args : Array Value} {s : State} {t : Term} {a N j : Nat} {cell : Cell} {v : Value} (hN : N < 2 ^ 31) (hj : j < N) (ht : t.eval args s none [] s = some (.ref a)) (hc : s.arrayAt? a = some cell) (h : (Term.elem t (.int (Int32.ofNat j))).eval args s none [] s = some v) : cell.slots[j]? = some v := by
  obtain ⟨a1, i, cell2, h1, h2, h3, h4, h5⟩ := Term.elem_spec h
  cases ht.symm.trans h1
  cases hc.symm.trans h3
  have hi : i = Int32.ofNat j := by
    have e : (Term.int (Int32.ofNat j)).eval args s none [] s = some (.int (Int32.ofNat j)) := rfl
    cases h2.symm.trans e
    rfl
  rw [hi, Int32.toNatClampNeg_ofNat_of_lt (Nat.lt_trans hj hN)] at h5
  exact h5
/-! the words of the start -/
abbrev rv_g : List Cond := flatC (Jvm.Cond.and given_1 narrow_1)
abbrev rv_wt (i : Nat) : Term := .static RX11 (rv_words.getD i "") "LRimCoins$Word;"
abbrev rv_tA : Term := .static RX11 "ALL" "[LRimCoins$Word;"
abbrev rv_tM : Term := .static RX0 "$SwitchMap$RimCoins$Word" "[I"
set_option maxRecDepth 100000 in
theorem rv_g_lays : ∀ i, i < 23 → Cond.laysStatic RX11 (rv_words.getD i "") "LRimCoins$Word;" ∈ lw_tbl := by decide +kernel
set_option maxRecDepth 100000 in
theorem rv_g_ex : ∀ i, i < 23 → Cond.exactly (rv_wt i) RX11 ∈ rv_g := by decide +kernel
set_option maxRecDepth 100000 in
theorem rv_g_ord : ∀ i, i < 23 → Cond.eq (.field (rv_wt i) "java/lang/Enum" "ordinal" "I") (.int (((List.range 23).map Int32.ofNat).getD i 0)) ∈ rv_g := by decide +kernel
set_option maxRecDepth 100000 in
theorem rv_g_code : ∀ i, i < 23 → Cond.eq (.field (rv_wt i) RX11 "code" "J") (.long (rv_wcode i)) ∈ rv_g := by decide +kernel
def rv_g_tb : List (Nat × Nat × Nat) := [(22, 8, 64), (22, 9, 68), (8, 9, 69), (22, 10, 73), (8, 10, 74), (9, 10, 75), (22, 13, 79), (8, 13, 80), (9, 13, 81), (10, 13, 82), (22, 12, 86), (8, 12, 87), (9, 12, 88), (10, 12, 89), (13, 12, 90), (22, 11, 94), (8, 11, 95), (9, 11, 96), (10, 11, 97), (13, 11, 98), (12, 11, 99), (22, 0, 105), (8, 0, 106), (9, 0, 107), (10, 0, 108), (13, 0, 109), (12, 0, 110), (11, 0, 111), (22, 1, 115), (8, 1, 116), (9, 1, 117), (10, 1, 118), (13, 1, 119), (12, 1, 120), (11, 1, 121), (0, 1, 122), (22, 2, 126), (8, 2, 127), (9, 2, 128), (10, 2, 129), (13, 2, 130), (12, 2, 131), (11, 2, 132), (0, 2, 133), (1, 2, 134), (22, 3, 138), (8, 3, 139), (9, 3, 140), (10, 3, 141), (13, 3, 142), (12, 3, 143), (11, 3, 144), (0, 3, 145), (1, 3, 146), (2, 3, 147), (22, 4, 151), (8, 4, 152), (9, 4, 153), (10, 4, 154), (13, 4, 155), (12, 4, 156), (11, 4, 157), (0, 4, 158), (1, 4, 159), (2, 4, 160), (3, 4, 161), (22, 5, 165), (8, 5, 166), (9, 5, 167), (10, 5, 168), (13, 5, 169), (12, 5, 170), (11, 5, 171), (0, 5, 172), (1, 5, 173), (2, 5, 174), (3, 5, 175), (4, 5, 176), (22, 6, 180), (8, 6, 181), (9, 6, 182), (10, 6, 183), (13, 6, 184), (12, 6, 185), (11, 6, 186), (0, 6, 187), (1, 6, 188), (2, 6, 189), (3, 6, 190), (4, 6, 191), (5, 6, 192), (22, 7, 196), (8, 7, 197), (9, 7, 198), (10, 7, 199), (13, 7, 200), (12, 7, 201), (11, 7, 202), (0, 7, 203), (1, 7, 204), (2, 7, 205), (3, 7, 206), (4, 7, 207), (5, 7, 208), (6, 7, 209), (22, 14, 213), (8, 14, 214), (9, 14, 215), (10, 14, 216), (13, 14, 217), (12, 14, 218), (11, 14, 219), (0, 14, 220), (1, 14, 221), (2, 14, 222), (3, 14, 223), (4, 14, 224), (5, 14, 225), (6, 14, 226), (7, 14, 227), (22, 15, 231), (8, 15, 232), (9, 15, 233), (10, 15, 234), (13, 15, 235), (12, 15, 236), (11, 15, 237), (0, 15, 238), (1, 15, 239), (2, 15, 240), (3, 15, 241), (4, 15, 242), (5, 15, 243), (6, 15, 244), (7, 15, 245), (14, 15, 246), (22, 16, 250), (8, 16, 251), (9, 16, 252), (10, 16, 253), (13, 16, 254), (12, 16, 255), (11, 16, 256), (0, 16, 257), (1, 16, 258), (2, 16, 259), (3, 16, 260), (4, 16, 261), (5, 16, 262), (6, 16, 263), (7, 16, 264), (14, 16, 265), (15, 16, 266), (22, 17, 270), (8, 17, 271), (9, 17, 272), (10, 17, 273), (13, 17, 274), (12, 17, 275), (11, 17, 276), (0, 17, 277), (1, 17, 278), (2, 17, 279), (3, 17, 280), (4, 17, 281), (5, 17, 282), (6, 17, 283), (7, 17, 284), (14, 17, 285), (15, 17, 286), (16, 17, 287), (22, 18, 291), (8, 18, 292), (9, 18, 293), (10, 18, 294), (13, 18, 295), (12, 18, 296), (11, 18, 297), (0, 18, 298), (1, 18, 299), (2, 18, 300), (3, 18, 301), (4, 18, 302), (5, 18, 303), (6, 18, 304), (7, 18, 305), (14, 18, 306), (15, 18, 307), (16, 18, 308), (17, 18, 309), (22, 19, 313), (8, 19, 314), (9, 19, 315), (10, 19, 316), (13, 19, 317), (12, 19, 318), (11, 19, 319), (0, 19, 320), (1, 19, 321), (2, 19, 322), (3, 19, 323), (4, 19, 324), (5, 19, 325), (6, 19, 326), (7, 19, 327), (14, 19, 328), (15, 19, 329), (16, 19, 330), (17, 19, 331), (18, 19, 332), (22, 20, 336), (8, 20, 337), (9, 20, 338), (10, 20, 339), (13, 20, 340), (12, 20, 341), (11, 20, 342), (0, 20, 343), (1, 20, 344), (2, 20, 345), (3, 20, 346), (4, 20, 347), (5, 20, 348), (6, 20, 349), (7, 20, 350), (14, 20, 351), (15, 20, 352), (16, 20, 353), (17, 20, 354), (18, 20, 355), (19, 20, 356), (22, 21, 360), (8, 21, 361), (9, 21, 362), (10, 21, 363), (13, 21, 364), (12, 21, 365), (11, 21, 366), (0, 21, 367), (1, 21, 368), (2, 21, 369), (3, 21, 370), (4, 21, 371), (5, 21, 372), (6, 21, 373), (7, 21, 374), (14, 21, 375), (15, 21, 376), (16, 21, 377), (17, 21, 378), (18, 21, 379), (19, 21, 380), (20, 21, 381)]
set_option maxRecDepth 100000 in
theorem rv_g_ne0 : ∀ q ∈ rv_g_tb, rv_g[q.2.2]? = some (Cond.not (.eq (rv_wt q.1) (rv_wt q.2.1))) := by decide +kernel
set_option maxRecDepth 100000 in
theorem rv_g_ne1 : ∀ i, i < 23 → ∀ j, j < 23 → i ≠ j → rv_g_tb.any (fun q => (q.1 == i && q.2.1 == j) || (q.1 == j && q.2.1 == i)) = true := by decide +kernel
theorem rv_g_ne (i : Nat) (hi : i < 23) (j : Nat) (hj : j < 23) (h : i ≠ j) : Cond.not (.eq (rv_wt i) (rv_wt j)) ∈ rv_g ∨ Cond.not (.eq (rv_wt j) (rv_wt i)) ∈ rv_g := by
  obtain ⟨q, hq, h1⟩ := List.any_eq_true.mp (rv_g_ne1 i hi j hj h)
  have h2 := List.mem_of_getElem? (rv_g_ne0 q hq)
  simp only [Bool.or_eq_true, Bool.and_eq_true, beq_iff_eq] at h1
  rcases h1 with ⟨e1, e2⟩ | ⟨e1, e2⟩
  · rw [e1, e2] at h2; exact Or.inl h2
  · rw [e1, e2] at h2; exact Or.inr h2
set_option maxRecDepth 100000 in
theorem rv_g_all : ∀ i, i < 23 → Cond.eq (.elem rv_tA (.int (Int32.ofNat i))) (rv_wt i) ∈ rv_g := by decide +kernel
set_option maxRecDepth 100000 in
theorem rv_g_sm : ∀ i, i < 23 → Cond.eq (.elem rv_tM (.int (Int32.ofNat i))) (.int (rv_sw i)) ∈ rv_g := by decide +kernel
set_option maxRecDepth 100000 in
theorem rv_g_inst : ∀ c, c < 12 → Cond.instantiable (rv_R c) (rv_N c) ∈ lw_tbl := by decide +kernel
theorem rv_arr_p {args : Array Value} {s : State} {ty : FieldType} (h : (Cond.arrayClass ty).before args s = true) : ∃ cA : ClassId, ArrOfT s cA ty ∧ s.vm.findClass ("[" ++ ty.toString) = some cA := by
  obtain ⟨c, k, comp, h1, h2, h3⟩ := Cond.arrayClass_spec h
  exact ⟨c, fun N z => ⟨(fun k h => by cases h), k, h2, comp, h3⟩, h1⟩
theorem rv_arr_o {args : Array Value} {s : State} {C : String} (h : (Cond.arrayOver (.object C)).before args s = true) : ∃ cA : ClassId, ArrOfT s cA (.object C) ∧ va_RA s cA (.object C) := by
  obtain ⟨comp, c, k, h1, _, h3, h4, h5⟩ := Cond.arrayOver_spec h
  exact ⟨c, fun N z => ⟨(fun k h => by cases h), k, h3, comp, h4⟩, k, comp, h3, h4, h1, h5⟩
set_option maxRecDepth 100000 in
theorem rv_arrs {args : Array Value} {s : State} (hts : ∀ w ∈ lw_tbl, w.before args s = true) : ∃ aC : Nat → ClassId, ∀ t, t < 7 → ArrOfT s (aC t) (rv_aty t) ∧ va_RA s (aC t) (rv_aty t) := by
  obtain ⟨c0, p0⟩ := rv_arr_p (hts (.arrayClass .int) (by decide +kernel))
  obtain ⟨c1, p1⟩ := rv_arr_p (hts (.arrayClass .long) (by decide +kernel))
  obtain ⟨c2, p2⟩ := rv_arr_p (hts (.arrayClass .byte) (by decide +kernel))
  obtain ⟨c3, p3⟩ := rv_arr_p (hts (.arrayClass .boolean) (by decide +kernel))
  obtain ⟨c4, p4⟩ := rv_arr_o (hts (.arrayOver (.object RX11)) (by decide +kernel))
  obtain ⟨c5, p5⟩ := rv_arr_o (hts (.arrayOver (.object RX9)) (by decide +kernel))
  obtain ⟨c6, p6⟩ := rv_arr_o (hts (.arrayOver (.object RX6)) (by decide +kernel))
  refine ⟨fun t => match t with | 0 => c0 | 1 => c1 | 2 => c2 | 3 => c3 | 4 => c4 | 5 => c5 | _ => c6, fun t ht => ?_⟩
  match t, ht with
  | 0, _ => exact p0
  | 1, _ => exact p1
  | 2, _ => exact p2
  | 3, _ => exact p3
  | 4, _ => exact p4
  | 5, _ => exact p5
  | 6, _ => exact p6
  | t + 7, h => exact absurd h (by omega)
theorem rv_clss {args : Array Value} {s : State} (hts : ∀ w ∈ lw_tbl, w.before args s = true) : ∃ D : va_G, ∀ (c : Nat) (q : vw_C), rvCl[c]? = some q → u_Kn s q.1 q.2.1 q.2.2 (D.1 c) (D.2 c) := by
  have h : ∀ c : Nat, ∃ x : ClassId × (Nat → Nat), c < 12 → u_Kn s (rv_R c) (rv_T c) (rv_N c) x.1 x.2 := by
    intro c
    have k : ∀ c, c < 12 → ∃ x : ClassId × (Nat → Nat), u_Kn s (rv_R c) (rv_T c) (rv_N c) x.1 x.2 := fun c hc => by
      obtain ⟨cC, iS, h⟩ := u_known (C := rv_R c) (T := rv_T c) (N := rv_N c) (n := rv_N c) (ws := lw_tbl) hts (fun w hw => (rv_lays0 c hc w hw).1) (hts _ (rv_g_inst c hc))
      exact ⟨(cC, iS), h⟩
    by_cases hc : c < 12
    · obtain ⟨x, hx⟩ := k c hc
      exact ⟨x, fun _ => hx⟩
    · obtain ⟨x, hx⟩ := k 0 (by decide)
      exact ⟨x, fun h => absurd h hc⟩
  obtain ⟨f, hf⟩ := Classical.axiomOfChoice h
  refine ⟨(fun c => (f c).1, fun c => (f c).2), fun c q hq => ?_⟩
  have hc : c < 12 := by
    have := (List.getElem?_eq_some_iff.mp hq).1
    exact this
  rw [rv_cl hc] at hq
  cases hq
  exact hf c hc
theorem rv_nests {args : Array Value} {s : State} (hts : ∀ w ∈ lw_tbl, w.before args s = true) : ∀ w ∈ lw_tbl, rv_isNest w = true → va_Nw w s := fun w hw hn => by
  have h := hts w hw
  cases w <;> first | exact va_Nw.of rfl h | cases hn
/-- the world before anything is made -/
def rv_S0 : rvS := ([], fun _ _ => 0, fun _ _ => 0, fun _ _ => none)
set_option maxHeartbeats 4000000 in
set_option maxRecDepth 100000 in
theorem rv_env0 {s : State} {b : Nat} (hts : ∀ w ∈ lw_tbl, w.before #[Value.ref b] s = true) (hgv : (Jvm.Cond.and given_1 narrow_1).before #[Value.ref b] s = true) : ∃ E : rvE, rv_Env E s ∧ E.2.2.1 = s.heap.size ∧ E.2.2.2 25 = b := by
  have hs : ∀ w ∈ rv_g, w.before #[Value.ref b] s = true := flat_of_before _ hgv
  have hA : ∀ a : Nat, a < s.heap.size → ¬ (fun q : Nat => s.heap.size ≤ q) a := fun a h1 h2 => Nat.not_lt.mpr h2 h1
  have hini : (Cond.initialized RX11).before #[Value.ref b] s = true := hts _ (rn1 4 (by decide +kernel))
  obtain ⟨aC, haC⟩ := rv_arrs hts
  obtain ⟨D, hD⟩ := rv_clss hts
  obtain ⟨ad, hE⟩ := va_Ecof (SC := RX11) (E := RX11) (d := "LRimCoins$Word;") (nm := rv_words) (F := [("java/lang/Enum", "ordinal", "I", (List.range 23).map Int32.ofNat)]) (A := fun q : Nat => s.heap.size ≤ q) (fun i hi => hts _ (rv_g_lays i hi)) hini (fun i hi => hs _ (rv_g_ex i hi)) (fun q hq i hi => by
      rw [List.mem_singleton] at hq
      subst hq
      exact hs _ (rv_g_ord i hi)) (fun i j hi hj hij => (rv_g_ne i hi j hj hij).imp (hs _) (hs _)) hA
  have hev : ∀ i, i < 23 → (rv_wt i).eval #[Value.ref b] s none [] s = some (.ref (ad i)) := fun i hi => rv_Zev (hE.1 i hi).1
  have hcode : ∀ i, i < 23 → va_OF RX11 "code" "J" (.long (rv_wcode i)) (ad i) (fun q : Nat => s.heap.size ≤ q) s s.heap := fun i hi => by
    have hv := va_eqtl (hs _ (rv_g_code i hi))
    cases hfo : s.fieldFound? RX11 "code" "J" with
    | none =>
      rw [va_fe (hev i hi)] at hv
      simp [State.fieldOf?, State.fieldNamed?, hfo] at hv
    | some x =>
      obtain ⟨cf, k, fi, f⟩ := x
      obtain ⟨g1, cell, g2, g3, -, -, g6⟩ := Term.field_spec hfo (hev i hi) hv
      exact ⟨cf, k, fi, f, cell, hfo, g1, g2, g3, g6, hA _ (Array.getElem?_eq_some_iff.mp g2).1⟩
  obtain ⟨tA, cA, hA1, hA2, hA3⟩ := rv_lenof (N := 23) (by decide) (va_eqt (t := .length rv_tA) (z := 23) (hs _ (by decide +kernel)))
  obtain ⟨tM, cM, hM1, hM2, hM3⟩ := rv_lenof (N := 23) (by decide) (va_eqt (t := .length rv_tM) (z := 23) (hs _ (by decide +kernel)))
  obtain ⟨hA4, hA5, -, -⟩ := State.arrayAt?_spec hA2
  obtain ⟨hM4, hM5, -, -⟩ := State.arrayAt?_spec hM2
  obtain ⟨hA6, -⟩ := Cond.arrayOf_spec (hs (.arrayOf rv_tA (.object RX11)) (by decide +kernel)) hA1 hA4
  obtain ⟨hM6, -⟩ := Cond.arrayOf_spec (hs (.arrayOf rv_tM .int) (by decide +kernel)) hM1 hM4
  have hA7 : ∀ j : Nat, j < 23 → cA.slots[j]? = some (.ref (ad j)) := fun j hj => rv_elemof (by decide) hj hA1 hA2 (rv_eqR (hs _ (rv_g_all j hj)) (hev j hj))
  have hM7 : ∀ j : Nat, j < 23 → cM.slots[j]? = some (.int (rv_sw j)) := fun j hj => rv_elemof (by decide) hj hM1 hM2 (va_eqt (hs _ (rv_g_sm j hj)))
  have hZA : va_Z RX11 "ALL" "[LRimCoins$Word;" (.ref tA) (fun q : Nat => s.heap.size ≤ q) s s.heap := va_Zref (hts _ (rn2 234 (by decide +kernel))) hini hA1 hA
  have hZM : va_Z RX0 "$SwitchMap$RimCoins$Word" "[I" (.ref tM) (fun q : Nat => s.heap.size ≤ q) s s.heap := va_Zref (hts _ (rn3 75 (by decide +kernel))) (hts _ (rn1 15 (by decide +kernel))) hM1 hA
  have hT1 : vx_Zq Bundle.tN "UNASSIGNED_STACK" Bundle.steD (fun q : Nat => s.heap.size ≤ q) s s.heap := vx_Zqof (hts _ (rn6 167 (by decide +kernel))) (hts _ (rn1 16 (by decide +kernel))) (hs _ (by decide +kernel)) hA
  have hT2 : vx_Zq Bundle.tN "SUPPRESSED_SENTINEL" Bundle.listD (fun q : Nat => s.heap.size ≤ q) s s.heap := vx_Zqof (hts _ (rn6 169 (by decide +kernel))) (hts _ (rn1 16 (by decide +kernel))) (hs _ (by decide +kernel)) hA
  have hstr : ∀ (k : Nat) (tx : String), (Cond.stringRef RX12 k tx).before #[Value.ref b] s = true → (Cond.exactly (.string RX12 k) "java/lang/String").before #[Value.ref b] s = true → ∃ a, vk_R RX12 k tx a s := fun k tx h1 h2 => by
    obtain ⟨a, c, cell, k, q1, -⟩ := Cond.exactly_spec h2
    exact ⟨a, vk_R.of h1 q1⟩
  have hAO : ∀ C : String, (Cond.arrayOver (.object C)).before #[Value.ref b] s = true → va_AO C s := fun C h => va_AO.of h
  refine ⟨(D, aC, s.heap.size, fun i => if i < 23 then ad i else if i = 23 then tA else if i = 24 then tM else b), ⟨⟨hD, fun k q hq => ?_⟩, rv_nests hts, ⟨⟨fun i hi => ?_, fun i j hi hj e => ?_⟩, fun i hi => ?_, hZA, ⟨cA, hA4, hA6, hA5, hA3, fun j hj => ?_, hA _ (Array.getElem?_eq_some_iff.mp hA4).1⟩, hZM, ⟨cM, hM4, hM6, hM5, hM3, hM7, hA _ (Array.getElem?_eq_some_iff.mp hM4).1⟩⟩, Nat.le_refl _, hAO _ (hts _ (rn1 188 (by decide +kernel))), hAO _ (hts _ (rn2 29 (by decide +kernel))), hAO _ (hts _ (rn2 89 (by decide +kernel))), hT1, hT2, hstr _ _ (hts _ (rn6 179 (by decide +kernel))) (hs _ (by decide +kernel)), hstr _ _ (hts _ (rn6 215 (by decide +kernel))) (hs _ (by decide +kernel)), hstr _ _ (hts _ (rn6 225 (by decide +kernel))) (hs _ (by decide +kernel))⟩, rfl, rfl⟩
  · have hk : k < 7 := by
      have := (List.getElem?_eq_some_iff.mp hq).1
      simpa [rv_tys] using this
    rw [rv_tys_get hk] at hq
    cases hq
    exact haC k hk
  · have hi' : i < 23 := hi
    show va_Z _ _ _ (.ref (if i < 23 then ad i else _)) _ _ _ ∧ va_O _ (if i < 23 then ad i else _) _ _ _ ∧ ∀ q ∈ _, va_OF _ _ _ _ (if i < 23 then ad i else _) _ _ _
    rw [if_pos hi']
    exact hE.1 i hi
  · have hi' : i < 23 := hi
    have hj' : j < 23 := hj
    have e : (if i < 23 then ad i else _) = (if j < 23 then ad j else _) := e
    rw [if_pos hi', if_pos hj'] at e
    exact hE.2 i j hi hj e
  · show va_OF _ _ _ _ (if i < 23 then ad i else _) _ _ _
    rw [if_pos hi]
    exact hcode i hi
  · show cA.slots[j]? = some (.ref (if j < 23 then ad j else _))
    rw [if_pos hj]
    exact hA7 j hj
/-- the start of the law, out of what its function comes to -/
theorem rv_begin {p : Program} {e : Env} {s : State} {m : MethodId} {below : List Frame} {meth : Method} {c : Code} (l : Launch) (hflags : l.flags = flags0) {b L n : Nat} {xs : Nat → Int32} {S1 : rvS} (C0 : lw_At p s m meth c b L xs) (hf : fnL_law n L xs rv_S0 = some (1, S1)) (h1 : rv_len S1 ≤ 601024) (h2 : rv_sz S1 ≤ 7293034) : W p l e room_1 s m #[Value.ref b] below meth c s.heap [] 0 0 (lw_Z below #[Value.ref b] s) (entryFrame m ([Value.ref b] : List Value).toArray 7) := by
  obtain ⟨hx, hb, hr, hml, hown, hts, hX, hbl, hlk, hgv⟩ := C0
  obtain ⟨E, hE, hE1, hE2⟩ := rv_env0 hts hgv
  have hst : l.stackTraces = false := by
    show (!l.flags.contains _) = false
    rw [hflags]
    decide +kernel
  obtain ⟨hup, pcr, lvr, hgo, hdr, hnar⟩ := eL_law_in n L xs rv_S0 1 S1 hf
  have C : rv_Cx (mL_law L xs) 200 p l room_1 s m #[Value.ref b] meth c E := ⟨hx, hb, hr, hml, hown, fun w hw => hts w (List.mem_filter.mp hw).1, hlk, (fun z => by cases z), hE, by decide, by decide, (fun q hq => by
    cases hq
    rw [hE2]
    exact ⟨hX, hbl, fun z => Nat.not_lt.mpr (by rw [← hE1]; exact z) hbl⟩), hst⟩
  have hW : rv_Wd E E.2.2.2 rv_S0 s.heap := ⟨fun k q hq => by simp [rv_W, rv_S0] at hq, ⟨fun i j p q hp => by simp [rv_W, rv_S0] at hp, fun k q hq => by simp [rv_W, rv_S0] at hq⟩, fun _ _ => rfl, fun x y b hb => by cases hb⟩
  have hl := lv_entry (([.ref 25] : List Value).map (rv_cv E.2.2.2)) (n := 7) (by rw [rv_sl]; exact Nat.le_of_ble_eq_true rfl)
  rw [rv_args] at hl
  rw [lg_entry_eq]
  have z1 : rv_len rv_S0 = 0 := rfl
  have z2 : rv_sz rv_S0 = 0 := rfl
  have hgo2 := hgo p l e room_1 s m _ below meth c E (lw_Z below #[Value.ref b] s) C E.2.2.2 s.heap [] ((lg_sl (([.ref 25] : List Value).map (rv_cv E.2.2.2)) ++ List.replicate (7 - (lg_sl (([.ref 25] : List Value).map (rv_cv E.2.2.2))).length) Slot.unset).toArray) 0 0 hW va_S.rf hl (by rw [z1]; show 0 + _ ≤ 601024 + 0; omega) (by rw [z2]; show 0 + _ ≤ 7293034 + 0; omega) (fun ad' H' locs' ls' m1 m2 g1 g0 g2 g3 g4 g5 g6 => ?_)
  · simp only [List.map_cons, List.map_nil, rv_cv, hE2] at hgo2
    exact hgo2
  · rw [z1] at g5
    rw [z2] at g6
    refine va_forget (fun q hq => by have := g3.2.2 q hq; rw [← hE1]; exact this) ?_
    refine W.widen (k := 601024) (n := 7293034) (by omega) (by omega) ?_
    exact lw_ret hx hb hr hlk hdr
