/-! THE WORLD OF ALL CELLS: numbers for cells (below 64: constants that nobody writes; from 64 on: cells of the world, in the order in which they were made); what they hold: whole numbers, longs, references -/
def rv_isNest : Cond → Bool
  | .fieldLinkNest .. => true
  | .methodLinkNest .. => true
  | .castable .. => true
  | .declares .. => true
  | _ => false
def rv_wN : List Cond := lw_tbl.filter goodWord
theorem rv_wN_in {w : Cond} (h : w ∈ lw_tbl) (g : goodWord w = true) : w ∈ rv_wN := List.mem_filter.mpr ⟨h, g⟩
theorem rv_wN_good : GoodIn rv_wN rv_wN := fun w h => ⟨h, good_of_word (List.mem_filter.mp h).2⟩
abbrev rvS : Type := List (Nat × Nat) × (Nat → Nat → Int32) × (Nat → Nat → Int64) × (Nat → Nat → Option Nat)
def rv_aty (t : Nat) : FieldType := match t with
  | 0 => .int
  | 1 => .long
  | 2 => .byte
  | 3 => .boolean
  | 4 => .object RX11
  | 5 => .object RX9
  | _ => .object RX6
def rv_tys (aC : Nat → ClassId) : List (ClassId × FieldType) := (List.range 7).map (fun t => (aC t, rv_aty t))
theorem rv_tys_get {aC : Nat → ClassId} {t : Nat} (h : t < 7) : (rv_tys aC)[t]? = some (aC t, rv_aty t) := by simp [rv_tys, h]
def rv_N (c : Nat) : Nat := match c with
  | 0 => 9 | 1 => 9 | 2 => 5 | 3 => 7 | 4 => 3 | 5 => 5 | 6 => 6 | 7 => 11 | 8 => 10 | 9 => 8 | 10 => 14 | 11 => 60 | _ => 0
def rv_R (c : Nat) : String := match c with
  | 0 => RX1 | 1 => RX2 | 2 => RX3 | 3 => RX4 | 4 => RX5 | 5 => RX6 | 6 => RX7 | 7 => RX8 | 8 => RX9 | 9 => RX10 | 10 => RX12 | _ => RX13
def rv_T (c : Nat) : u_T := match c with
  | 0 => TX1 | 1 => TX2 | 2 => TX3 | 3 => TX4 | 4 => TX5 | 5 => TX6 | 6 => TX7 | 7 => TX8 | 8 => TX9 | 9 => TX10 | 10 => TX12 | _ => TX13
def rv_ty (c : Nat) : Nat → FieldType := match c with
  | 0 => tyX1 | 1 => tyX2 | 2 => tyX3 | 3 => tyX4 | 4 => tyX5 | 5 => tyX6 | 6 => tyX7 | 7 => tyX8 | 8 => tyX9 | 9 => tyX10 | 10 => tyX12 | _ => tyX13
abbrev rvCl : List vw_C := vwCl
theorem rv_12 {P : Nat → Prop} (h0 : P 0) (h1 : P 1) (h2 : P 2) (h3 : P 3) (h4 : P 4) (h5 : P 5) (h6 : P 6) (h7 : P 7) (h8 : P 8) (h9 : P 9) (h10 : P 10) (h11 : P 11) {c : Nat} (h : c < 12) : P c := by
  match c, h with
  | 0, _ => exact h0
  | 1, _ => exact h1
  | 2, _ => exact h2
  | 3, _ => exact h3
  | 4, _ => exact h4
  | 5, _ => exact h5
  | 6, _ => exact h6
  | 7, _ => exact h7
  | 8, _ => exact h8
  | 9, _ => exact h9
  | 10, _ => exact h10
  | 11, _ => exact h11
  | c + 12, h => exact absurd h (by omega)
theorem rv_cl {c : Nat} (h : c < 12) : rvCl[c]? = some (rv_R c, rv_T c, rv_N c) := rv_12 (P := fun c => rvCl[c]? = some (rv_R c, rv_T c, rv_N c)) rfl rfl rfl rfl rfl rfl rfl rfl rfl rfl rfl rfl h
theorem rv_ty_ok {c : Nat} (h : c < 12) : ∀ k, k < rv_N c → parseFieldDescriptor (rv_T c k).2.2.1 = some (rv_ty c k) := rv_12 (P := fun c => ∀ k, k < rv_N c → parseFieldDescriptor (rv_T c k).2.2.1 = some (rv_ty c k)) tyX1_ok tyX2_ok tyX3_ok tyX4_ok tyX5_ok tyX6_ok tyX7_ok tyX8_ok tyX9_ok tyX10_ok tyX12_ok tyX13_ok h
theorem rv_nm {c : Nat} (h : c < 12) : ∀ a, a < rv_N c → ∀ b, b < rv_N c → a ≠ b → (rv_T c a).2.1 ≠ (rv_T c b).2.1 := rv_12 (P := fun c => ∀ a, a < rv_N c → ∀ b, b < rv_N c → a ≠ b → (rv_T c a).2.1 ≠ (rv_T c b).2.1) nmX1 nmX2 nmX3 nmX4 nmX5 nmX6 nmX7 nmX8 nmX9 nmX10 nmX12 nmX13 h
set_option maxRecDepth 100000 in
theorem rv_lays0 : ∀ c, c < 12 → ∀ w ∈ u_ws (rv_R c) (rv_T c) (rv_N c), w ∈ lw_tbl ∧ goodWord w = true := by decide +kernel
theorem rv_lays {c : Nat} (h : c < 12) : ∀ w ∈ u_ws (rv_R c) (rv_T c) (rv_N c), w ∈ rv_wN := fun w hw => rv_wN_in (rv_lays0 c h w hw).1 (rv_lays0 c h w hw).2
/-- a value of the machine out of one in numbers for cells -/
def rv_cv (ad : Nat → Nat) (v : Value) : Value := match v with
  | .ref a => .ref (ad a)
  | v => v
theorem rv_cv_cat (ad : Nat → Nat) (v : Value) : (rv_cv ad v).category = v.category := by cases v <;> rfl
def rv_fv (ad : Nat → Nat) (ty : FieldType) (x : Int32) (y : Int64) (r : Option Nat) : Value := match ty with
  | .long => .long y
  | .object _ => va_rf (r.map ad)
  | .array _ => va_rf (r.map ad)
  | _ => .int x
def rv_arr (ad : Nat → Nat) (t n : Nat) (f : Nat → Int32) (g : Nat → Int64) (h : Nat → Option Nat) : vp_A := match t with
  | 1 => (n, .inr (.inl g))
  | 0 => (n, .inl f)
  | 2 => (n, .inl f)
  | 3 => (n, .inl f)
  | _ => (n, .inr (.inr (.inr (.inr (fun j => (h j).map ad)))))
def rv_fs (ad : Nat → Nat) (S : rvS) (a c : Nat) : List Value := (List.range (rv_N c)).map (fun k => rv_fv ad (rv_ty c k) (S.2.1 a k) (S.2.2.1 a k) (S.2.2.2 a k))
def rv_cell (aC : Nat → ClassId) (ad : Nat → Nat) (S : rvS) (a : Nat) (q : Nat × Nat) : va_E :=
  if q.1 < 50 then .inr (q.1, rv_fs ad S a q.1) else .inl (aC (q.1 - 50), rv_arr ad (q.1 - 50) q.2 (S.2.1 a) (S.2.2.1 a) (S.2.2.2 a))
def rv_W (aC : Nat → ClassId) (ad : Nat → Nat) (S : rvS) : va_W := S.1.mapIdx (fun j q => (ad (64 + j), rv_cell aC ad S (64 + j) q))
def rv_is (S : rvS) (a : Nat) (q : Nat × Nat) : Prop := 64 ≤ a ∧ S.1[a - 64]? = some q
theorem rv_W_get {aC : Nat → ClassId} {ad : Nat → Nat} {S : rvS} {a : Nat} {q : Nat × Nat} (h : rv_is S a q) : (rv_W aC ad S)[a - 64]? = some (ad a, rv_cell aC ad S a q) := by
  have e : 64 + (a - 64) = a := by have := h.1; omega
  simp [rv_W, List.getElem?_mapIdx, h.2, e]
/-- what is the same off one cell -/
def rv_off (S S' : rvS) (a : Nat) : Prop := S'.1 = S.1 ∧ ∀ b, b ≠ a → S'.2.1 b = S.2.1 b ∧ S'.2.2.1 b = S.2.2.1 b ∧ S'.2.2.2 b = S.2.2.2 b
theorem rv_cell_off {aC : Nat → ClassId} {ad : Nat → Nat} {S S' : rvS} {b : Nat} (h : S'.2.1 b = S.2.1 b ∧ S'.2.2.1 b = S.2.2.1 b ∧ S'.2.2.2 b = S.2.2.2 b) (q : Nat × Nat) : rv_cell aC ad S' b q = rv_cell aC ad S b q := by
  unfold rv_cell rv_fs
  rw [h.1, h.2.1, h.2.2]
theorem rv_W_off {aC : Nat → ClassId} {ad : Nat → Nat} {S S' : rvS} {a : Nat} {q : Nat × Nat} (h : rv_off S S' a) (hq : rv_is S a q) : rv_W aC ad S' = (rv_W aC ad S).set (a - 64) (ad a, rv_cell aC ad S' a q) := by
  apply List.ext_getElem?
  intro i
  have e : 64 + (a - 64) = a := by have := hq.1; omega
  have hl : a - 64 < S.1.length := (List.getElem?_eq_some_iff.mp hq.2).1
  by_cases hi : i = a - 64
  · subst hi
    rw [List.getElem?_set_self (by simp [rv_W]; exact hl)]
    simp [rv_W, List.getElem?_mapIdx, h.1, hq.2, e]
  · rw [List.getElem?_set_ne (Ne.symm hi)]
    simp only [rv_W, List.getElem?_mapIdx, h.1]
    cases S.1[i]? with
    | none => rfl
    | some q0 =>
      have hne : 64 + i ≠ a := by omega
      simp only [Option.map_some, rv_cell_off (h.2 (64 + i) hne) q0]
def rv_sI (S : rvS) (a k : Nat) (v : Int32) : rvS := (S.1, fun x y => if x = a ∧ y = k then v else S.2.1 x y, S.2.2.1, S.2.2.2)
def rv_sL (S : rvS) (a k : Nat) (v : Int64) : rvS := (S.1, S.2.1, fun x y => if x = a ∧ y = k then v else S.2.2.1 x y, S.2.2.2)
def rv_sR (S : rvS) (a k : Nat) (v : Option Nat) : rvS := (S.1, S.2.1, S.2.2.1, fun x y => if x = a ∧ y = k then v else S.2.2.2 x y)
theorem rv_sI_off (S : rvS) (a k : Nat) (v : Int32) : rv_off S (rv_sI S a k v) a := ⟨rfl, fun b hb => ⟨by funext y; simp [rv_sI, hb], rfl, rfl⟩⟩
theorem rv_sL_off (S : rvS) (a k : Nat) (v : Int64) : rv_off S (rv_sL S a k v) a := ⟨rfl, fun b hb => ⟨rfl, by funext y; simp [rv_sL, hb], rfl⟩⟩
theorem rv_sR_off (S : rvS) (a k : Nat) (v : Option Nat) : rv_off S (rv_sR S a k v) a := ⟨rfl, fun b hb => ⟨rfl, rfl, by funext y; simp [rv_sR, hb]⟩⟩
/-- how many cells, and of how many places, the world counts; the row 60, which is no cell, counts what was made outside of it -/
def rv_len (S : rvS) : Nat := S.1.length + (S.2.1 60 0).toNatClampNeg
def rv_sz (S : rvS) : Nat := (S.1.map (fun q => q.2)).sum + (S.2.1 60 1).toNatClampNeg
def rv_same (S S' : rvS) : Prop := S'.1 = S.1 ∧ S'.2.1 60 = S.2.1 60
/-- what surrounds a launch: where classes are, array classes, the first address of the world, the addresses of constants -/
abbrev rvE : Type := va_G × (Nat → ClassId) × Nat × (Nat → Nat)
abbrev rv_A (E : rvE) : Nat → Prop := fun q => E.2.2.1 ≤ q
/-- the world: cells, apart, in their place -/
def rv_Wd (E : rvE) (ad : Nat → Nat) (S : rvS) (H : Heap) : Prop := va_P E.1 rvCl (rv_W E.2.1 ad S) H ∧ va_D (rv_A E) (rv_W E.2.1 ad S) ∧ (∀ i, i < 64 → ad i = E.2.2.2 i) ∧ ∀ x y b, S.2.2.2 x y = some b → b < 64 + S.1.length
/-- a row of references that nobody writes -/
def rv_ZR (b L : Nat) (xs : Nat → Nat) (C : String) (A : Nat → Prop) (U : State) (H : Heap) : Prop := ∃ scr : Cell, H[b]? = some scr ∧ U.isArrayOf scr (.object C) ∧ scr.vm ≠ .unknown ∧ scr.slots.size = L ∧ (∀ j : Nat, j < L → scr.slots[j]? = some (.ref (xs j))) ∧ ¬ A b
def rv_ZI (b L : Nat) (xs : Nat → Int32) (A : Nat → Prop) (U : State) (H : Heap) : Prop := ∃ scr : Cell, H[b]? = some scr ∧ U.isArrayOf scr .int ∧ scr.vm ≠ .unknown ∧ scr.slots.size = L ∧ (∀ j : Nat, j < L → scr.slots[j]? = some (.int (xs j))) ∧ ¬ A b
theorem rv_ZR.kept {b L : Nat} {xs : Nat → Nat} {C : String} {A : Nat → Prop} {U : State} {H H1 : Heap} (h : rv_ZR b L xs C A U H) (hq : ∀ a : Nat, a < H.size → ¬ A a → H1[a]? = H[a]?) : rv_ZR b L xs C A U H1 := by
  obtain ⟨scr, h1, h2, h3, h4, h5, h6⟩ := h
  exact ⟨scr, by rw [hq b (Array.getElem?_eq_some_iff.mp h1).1 h6]; exact h1, h2, h3, h4, h5, h6⟩
theorem rv_ZI.kept {b L : Nat} {xs : Nat → Int32} {A : Nat → Prop} {U : State} {H H1 : Heap} (h : rv_ZI b L xs A U H) (hq : ∀ a : Nat, a < H.size → ¬ A a → H1[a]? = H[a]?) : rv_ZI b L xs A U H1 := by
  obtain ⟨scr, h1, h2, h3, h4, h5, h6⟩ := h
  exact ⟨scr, by rw [hq b (Array.getElem?_eq_some_iff.mp h1).1 h6]; exact h1, h2, h3, h4, h5, h6⟩
theorem rv_ZR.moved {b L : Nat} {xs : Nat → Nat} {C : String} {A : Nat → Prop} {u U : State} {H : Heap} (hvm : u.vm.Alike U.vm) (h : rv_ZR b L xs C A u H) : rv_ZR b L xs C A U H := by
  obtain ⟨scr, h1, h2, h3⟩ := h
  exact ⟨scr, h1, State.isArrayOf_alike hvm h2, h3⟩
theorem rv_ZI.moved {b L : Nat} {xs : Nat → Int32} {A : Nat → Prop} {u U : State} {H : Heap} (hvm : u.vm.Alike U.vm) (h : rv_ZI b L xs A u H) : rv_ZI b L xs A U H := by
  obtain ⟨scr, h1, h2, h3⟩ := h
  exact ⟨scr, h1, State.isArrayOf_alike hvm h2, h3⟩
def rv_words : List String := ["RIM", "WHO", "ROAD", "COIN", "OWES", "STRANGER", "FEE", "DEAD", "RUBBED", "STAYS", "HEIRS", "OR", "AND", "NOT", "HELD", "BEARS", "GOES", "STUCK", "FORGED", "VALUE", "NAMES", "PLACE", "NAME"]
/-- the codes of the WORDS -/
def rv_wcode (i : Nat) : Int64 := ([18733, 23823, 605220, 113966, 515251, 674915359922, 6309, 136228, 626067620, 20580147, 8562259, 498, 1476, 14836, 267652, 2262611, 244915, 20599915, 217652388, 23114405, 14726323, 17171557, 0] : List Int64).getD i 0
def rv_sw (i : Nat) : Int32 := ([1, 2, 3, 4, 5, 6, 7, 8, 0, 0, 0, 0, 0, 9, 10, 11, 12, 16, 17, 13, 14, 15, 0] : List Int32).getD i 0
def rv_St (E : rvE) (U : State) : Prop :=
  va_Ec RX11 RX11 "LRimCoins$Word;" rv_words [("java/lang/Enum", "ordinal", "I", (List.range 23).map Int32.ofNat)] E.2.2.2 (rv_A E) U U.heap ∧
  (∀ i, i < 23 → va_OF RX11 "code" "J" (.long (rv_wcode i)) (E.2.2.2 i) (rv_A E) U U.heap) ∧
  va_Z RX11 "ALL" "[LRimCoins$Word;" (.ref (E.2.2.2 23)) (rv_A E) U U.heap ∧ rv_ZR (E.2.2.2 23) 23 E.2.2.2 RX11 (rv_A E) U U.heap ∧
  va_Z RX0 "$SwitchMap$RimCoins$Word" "[I" (.ref (E.2.2.2 24)) (rv_A E) U U.heap ∧ rv_ZI (E.2.2.2 24) 23 rv_sw (rv_A E) U U.heap
/-- what throwing rests on: two statics of Throwable, the texts -/
def rv_Th (E : rvE) (U : State) : Prop := vx_Zq Bundle.tN "UNASSIGNED_STACK" Bundle.steD (rv_A E) U U.heap ∧ vx_Zq Bundle.tN "SUPPRESSED_SENTINEL" Bundle.listD (rv_A E) U U.heap ∧ (∃ a, vk_R RX12 110 "no such WHO or question" a U) ∧ (∃ a, vk_R RX12 160 "no such COIN or question" a U) ∧ ∃ a, vk_R RX12 298 "no such DEBT or question" a U
theorem rv_Th.moved {E : rvE} {u U : State} (hW : u.WarmedH U.vm) (hh : ∀ q : Nat, q < u.heap.size → ¬ rv_A E q → U.heap[q]? = u.heap[q]?) (h : rv_Th E u) : rv_Th E U := by
  obtain ⟨h1, h2, ⟨a, h3⟩, ⟨b, h4⟩, ⟨c, h5⟩⟩ := h
  exact ⟨(vx_Zq.moved hW.alike h1).kept hh, (vx_Zq.moved hW.alike h2).kept hh, ⟨a, h3.warm hW⟩, ⟨b, h4.warm hW⟩, ⟨c, h5.warm hW⟩⟩
def rv_Env (E : rvE) (U : State) : Prop := va_K E.1 rvCl (rv_tys E.2.1) U ∧ (∀ w ∈ lw_tbl, rv_isNest w = true → va_Nw w U) ∧ rv_St E U ∧ E.2.2.1 ≤ U.heap.size ∧ va_AO RX11 U ∧ va_AO RX9 U ∧ va_AO RX6 U ∧ rv_Th E U
theorem rv_nest_moved {s U : State} (hW : s.WarmedH U.vm) {w : Cond} (hn : rv_isNest w = true) (h : va_Nw w s) : va_Nw w U := by
  cases w <;> first | exact va_Nw.warmF hW h | exact va_Nw.warmM hW h | exact va_Nw.warmC hW h | exact va_Nw.warmD hW h | cases hn
theorem rv_Env.moved {E : rvE} {u U : State} (hW : u.WarmedH U.vm) (hz : u.heap.size ≤ U.heap.size) (hh : ∀ q : Nat, q < u.heap.size → ¬ rv_A E q → U.heap[q]? = u.heap[q]?) (h : rv_Env E u) : rv_Env E U := by
  obtain ⟨h1, h2, ⟨g1, g2, g3, g4, g5, g6⟩, h4, h5, h6, h7, h8⟩ := h
  exact ⟨va_K.moved hW.alike h1, fun w hw hn => rv_nest_moved hW hn (h2 w hw hn), ⟨(va_Ec.moved hW.alike g1).kept hh, fun i hi => (va_OF.moved hW.alike (g2 i hi)).kept hh, (va_Z.moved hW.alike g3).kept hh, (rv_ZR.moved hW.alike g4).kept hh, (va_Z.moved hW.alike g5).kept hh, (rv_ZI.moved hW.alike g6).kept hh⟩, Nat.le_trans h4 hz, va_AO.moved hW.alike h5, va_AO.moved hW.alike h6, va_AO.moved hW.alike h7, h8.moved hW hh⟩
