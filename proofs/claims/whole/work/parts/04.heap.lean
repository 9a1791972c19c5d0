/-! RULES THAT READ AND WRITE CELLS; objects and rows that are made; returns; calls -/
def rv_tk (ty : FieldType) : Nat := match ty with
  | .long => 1
  | .object _ => 2
  | .array _ => 2
  | _ => 0
theorem rv_fv0 {ad : Nat → Nat} {ty : FieldType} {x : Int32} {y : Int64} {r : Option Nat} (h : rv_tk ty = 0) : rv_fv ad ty x y r = .int x := by cases ty <;> first | rfl | cases h
theorem rv_fv1 {ad : Nat → Nat} {ty : FieldType} {x : Int32} {y : Int64} {r : Option Nat} (h : rv_tk ty = 1) : rv_fv ad ty x y r = .long y := by cases ty <;> first | rfl | cases h
theorem rv_fv2 {ad : Nat → Nat} {ty : FieldType} {x : Int32} {y : Int64} {r : Option Nat} (h : rv_tk ty = 2) : rv_fv ad ty x y r = va_rf (r.map ad) := by cases ty <;> first | rfl | cases h
/-- a field is reached from a class by an entry of its pool -/
def rv_LF (own : String) (ix c k : Nat) : Prop := c < 12 ∧ k < rv_N c ∧ (rv_T c k).1 = rv_R c ∧ (Cond.fieldLink own ix (rv_R c) (rv_T c k).2.1 (rv_T c k).2.2.1 ∈ rv_wN ∨ ∃ host, Cond.fieldLinkNest own ix (rv_R c) (rv_T c k).2.1 (rv_T c k).2.2.1 host ∈ lw_tbl)
theorem rv_cellO {aC : Nat → ClassId} {ad : Nat → Nat} {S : rvS} {a c n : Nat} (h : c < 12) : rv_cell aC ad S a (c, n) = .inr (c, rv_fs ad S a c) := if_pos (show c < 50 by omega)
theorem rv_fs_get {ad : Nat → Nat} {S : rvS} {a c k : Nat} (h : k < rv_N c) : (rv_fs ad S a c)[k]? = some (rv_fv ad (rv_ty c k) (S.2.1 a k) (S.2.2.1 a k) (S.2.2.2 a k)) := by simp [rv_fs, h]
theorem rv_fs_len {ad : Nat → Nat} {S : rvS} {a c : Nat} : (rv_fs ad S a c).length = rv_N c := by simp [rv_fs]
theorem rv_fs_set {ad : Nat → Nat} {S S1 : rvS} {a c k : Nat} {v : Value} (h : k < rv_N c) (hv : rv_fv ad (rv_ty c k) (S1.2.1 a k) (S1.2.2.1 a k) (S1.2.2.2 a k) = v) (ho : ∀ j, j ≠ k → S1.2.1 a j = S.2.1 a j ∧ S1.2.2.1 a j = S.2.2.1 a j ∧ S1.2.2.2 a j = S.2.2.2 a j) : rv_fs ad S1 a c = (rv_fs ad S a c).set k v := by
  apply List.ext_getElem?
  intro j
  by_cases hj : j = k
  · subst hj
    rw [List.getElem?_set_self (by rw [rv_fs_len]; exact h), rv_fs_get h, hv]
  · rw [List.getElem?_set_ne (Ne.symm hj)]
    by_cases hn : j < rv_N c
    · rw [rv_fs_get hn, rv_fs_get hn, (ho j hj).1, (ho j hj).2.1, (ho j hj).2.2]
    · rw [List.getElem?_eq_none (by rw [rv_fs_len]; omega), List.getElem?_eq_none (by rw [rv_fs_len]; omega)]
section RVH
variable {X : rvM} {d pc : Nat} {lv : List (Nat × Value)} {st : List Value} {S S' : rvS} {r : Option Value}
theorem rv_getf {p : Program} {l : Launch} {e : Env} {R : Room} {s : State} {m : MethodId} {args : Array Value} {below : List Frame} {meth : Method} {c : Code} {E : rvE} {Q : State → Prop} (C : rv_Cx X d p l R s m args meth c E) {H : Heap} {locs : List Loc} {ls : Array Slot} {n1 n2 : Nat} {ad : Nat → Nat} (hW : rv_Wd E ad S H) {ix a cl n k : Nat} {v : Value} {rest : List Value} (hf : rv_is S a (cl, n)) (hl : rv_LF X.1 ix cl k) (hv : rv_fv ad (rv_ty cl k) (S.2.1 a k) (S.2.2.1 a k) (S.2.2.2 a k) = v) (hdg : decode X.2.1 pc = .ok (.getfield ix, 3)) (kk : W p l e R s m args below meth c H locs n1 n2 Q (F0 m (pc + 3) ls (v :: rest))) : W p l e R s m args below meth c H locs n1 n2 Q (F0 m pc ls (.ref (ad a) :: rest)) := by
  obtain ⟨h12, hk, hs, hlk⟩ := hl
  have hg := rv_W_get (aC := E.2.1) (ad := ad) hf
  rw [rv_cellO h12] at hg
  have hfs : (rv_fs ad S a cl)[k]? = some v := by rw [rv_fs_get hk, hv]
  rcases hlk with hlk | ⟨host, hlk⟩
  · exact va_get C.1 C.2.1 C.2.2.2.2.2.1 (rv_lays h12) C.2.2.2.2.1 C.2.2.2.2.2.2.2.2.1.1 hW.1 _ hg (rv_cl h12) k hk (C.2.2.2.2.2.1 _ hlk) (fun x hx => by rw [hs] at hx; exact hx) hfs hdg kk
  · exact va_getN C.1 C.2.1 C.2.2.2.2.2.1 (rv_lays h12) C.2.2.2.2.1 C.2.2.2.2.2.2.2.2.1.1 hW.1 _ hg (rv_cl h12) k hk (va_Nw.use rfl (C.2.2.2.2.2.2.2.2.1.2.1 _ hlk rfl)) (fun x hx => by rw [hs] at hx; exact hx) hfs hdg kk
theorem re_getI {ix a cl n k : Nat} (hf : rv_is S a (cl, n)) (hl : rv_LF X.1 ix cl k) (ht : rv_tk (rv_ty cl k) = 0) (hdg : decode X.2.1 pc = .ok (.getfield ix, 3)) (k : rv_Ev X d (pc + 3) lv (.int (S.2.1 a k) :: st) S r S') : rv_Ev X d pc lv (.ref a :: st) S r S' :=
  rv_st1 (fun p l e R s m args below meth c E Q C ad H locs ls n1 n2 hW hS hL kk => rv_getf C hW hf hl (rv_fv0 ht) hdg (kk ls hL)) k
theorem re_getL {ix a cl n k : Nat} (hf : rv_is S a (cl, n)) (hl : rv_LF X.1 ix cl k) (ht : rv_tk (rv_ty cl k) = 1) (hdg : decode X.2.1 pc = .ok (.getfield ix, 3)) (k : rv_Ev X d (pc + 3) lv (.long (S.2.2.1 a k) :: st) S r S') : rv_Ev X d pc lv (.ref a :: st) S r S' :=
  rv_st1 (fun p l e R s m args below meth c E Q C ad H locs ls n1 n2 hW hS hL kk => rv_getf C hW hf hl (rv_fv1 ht) hdg (kk ls hL)) k
theorem re_getR {ix a cl n k b : Nat} (hf : rv_is S a (cl, n)) (hl : rv_LF X.1 ix cl k) (ht : rv_tk (rv_ty cl k) = 2) (hb : S.2.2.2 a k = some b) (hdg : decode X.2.1 pc = .ok (.getfield ix, 3)) (k : rv_Ev X d (pc + 3) lv (.ref b :: st) S r S') : rv_Ev X d pc lv (.ref a :: st) S r S' :=
  rv_st1 (fun p l e R s m args below meth c E Q C ad H locs ls n1 n2 hW hS hL kk => rv_getf (v := .ref (ad b)) C hW hf hl ((rv_fv2 ht).trans (by rw [hb]; rfl)) hdg (kk ls hL)) k
theorem rv_Wd.set {E : rvE} {ad : Nat → Nat} {S1 : rvS} {a : Nat} {q : Nat × Nat} {e : va_E} {H H1 : Heap} (hW : rv_Wd E ad S H) (ho : rv_off S S1 a) (hf : rv_is S a q) (he : rv_cell E.2.1 ad S1 a q = e) (hr : ∀ y b, S1.2.2.2 a y = some b → b < 64 + S.1.length) (hP : va_P E.1 rvCl ((rv_W E.2.1 ad S).set (a - 64) (ad a, e)) H1) (hD : va_D (rv_A E) ((rv_W E.2.1 ad S).set (a - 64) (ad a, e))) : rv_Wd E ad S1 H1 := by
  rw [← he, ← rv_W_off ho hf] at hP hD
  refine ⟨hP, hD, hW.2.2.1, fun x y b h => ?_⟩
  rw [ho.1]
  by_cases hx : x = a
  · subst hx
    exact hr y b h
  · rw [(ho.2 x hx).2.2] at h
    exact hW.2.2.2 x y b h
theorem rv_putf {p : Program} {l : Launch} {e : Env} {R : Room} {s : State} {m : MethodId} {args : Array Value} {below : List Frame} {meth : Method} {c : Code} {E : rvE} {Q : State → Prop} (C : rv_Cx X d p l R s m args meth c E) {H : Heap} {locs : List Loc} {ls : Array Slot} {n1 n2 : Nat} {ad : Nat → Nat} (hW : rv_Wd E ad S H) (hS : va_S (rv_A E) s.heap H locs) {S1 : rvS} {ix a cl n k : Nat} {v : Value} {rest : List Value} (hf : rv_is S a (cl, n)) (hl : rv_LF X.1 ix cl k) (hfin : (rv_T cl k).2.2.2 = false ∨ ((rv_T cl k).2.2.2 = true ∧ X.2.2.2.2.1 = true ∧ X.1 = rv_R cl ∧ Cond.fieldLink X.1 ix (rv_R cl) (rv_T cl k).2.1 (rv_T cl k).2.2.1 ∈ rv_wN)) (hn : narrow (rv_ty cl k) v = v) (hfit : fits (rv_ty cl k) v = true) (ho : rv_off S S1 a) (hv : rv_fv ad (rv_ty cl k) (S1.2.1 a k) (S1.2.2.1 a k) (S1.2.2.2 a k) = v) (hoj : ∀ j, j ≠ k → S1.2.1 a j = S.2.1 a j ∧ S1.2.2.1 a j = S.2.2.1 a j ∧ S1.2.2.2 a j = S.2.2.2 a j) (hr : ∀ y b, S1.2.2.2 a y = some b → b < 64 + S.1.length) (hdg : decode X.2.1 pc = .ok (.putfield ix, 3)) (kk : ∀ (H1 : Heap) (locs1 : List Loc), rv_Wd E ad S1 H1 → va_S (rv_A E) s.heap H1 locs1 → W p l e R s m args below meth c H1 locs1 n1 n2 Q (F0 m (pc + 3) ls rest)) : W p l e R s m args below meth c H locs n1 n2 Q (F0 m pc ls (v :: .ref (ad a) :: rest)) := by
  obtain ⟨h12, hk, hs, hlk⟩ := hl
  have hg := rv_W_get (aC := E.2.1) (ad := ad) hf
  rw [rv_cellO h12] at hg
  have hlen : k < (rv_fs ad S a cl).length := by rw [rv_fs_len]; exact hk
  have hc : rv_cell E.2.1 ad S1 a (cl, n) = .inr (cl, (rv_fs ad S a cl).set k v) := by rw [rv_cellO h12, rv_fs_set hk hv hoj]
  have fin : ∀ (H1 : Heap) (locs1 : List Loc), va_P E.1 rvCl ((rv_W E.2.1 ad S).set (a - 64) (ad a, .inr (cl, (rv_fs ad S a cl).set k v))) H1 → va_D (rv_A E) ((rv_W E.2.1 ad S).set (a - 64) (ad a, .inr (cl, (rv_fs ad S a cl).set k v))) → va_S (rv_A E) s.heap H1 locs1 → W p l e R s m args below meth c H1 locs1 n1 n2 Q (F0 m (pc + 3) ls rest) := fun H1 locs1 hP hD hS1 => kk H1 locs1 (hW.set ho hf hc hr hP hD) hS1
  rcases hfin with hfin | ⟨hfin, hini, hown⟩
  · rcases hlk with hlk | ⟨host, hlk⟩
    · exact va_put C.1 C.2.1 C.2.2.2.2.2.1 (rv_lays h12) (rv_ty cl) (rv_ty_ok h12) (rv_nm h12) C.2.2.2.2.1 C.2.2.2.2.2.2.2.2.1.1 hW.1 hW.2.1 hS _ hg (rv_cl h12) k hk (C.2.2.2.2.2.1 _ hlk) (fun x hx => by rw [hs] at hx; exact hx) hfin (rv_ty_ok h12 k hk) hn hfit hlen hdg fin
    · exact va_putN C.1 C.2.1 C.2.2.2.2.2.1 (rv_lays h12) (rv_ty cl) (rv_ty_ok h12) (rv_nm h12) C.2.2.2.2.1 C.2.2.2.2.2.2.2.2.1.1 hW.1 hW.2.1 hS _ hg (rv_cl h12) k hk (va_Nw.use rfl (C.2.2.2.2.2.2.2.2.1.2.1 _ hlk rfl)) (fun x hx => by rw [hs] at hx; exact hx) hfin (rv_ty_ok h12 k hk) hn hfit hlen hdg fin
  · exact va_putF C.1 C.2.1 C.2.2.2.2.2.1 (rv_lays h12) (rv_ty cl) (rv_ty_ok h12) (rv_nm h12) C.2.2.2.2.1 C.2.2.2.2.2.2.2.2.1.1 hW.1 hW.2.1 hS _ hg (rv_cl h12) k hk (C.2.2.2.2.2.1 _ hown.2) (fun x hx => by rw [hs] at hx; exact hx) hfin (C.2.2.2.2.2.2.2.1 hini) (hs.trans hown.1.symm) (rv_ty_ok h12 k hk) hn hfit hlen hdg fin
theorem re_putI {ix a cl n k : Nat} {v : Int32} (hf : rv_is S a (cl, n)) (hl : rv_LF X.1 ix cl k) (ht : rv_tk (rv_ty cl k) = 0) (hfin : (rv_T cl k).2.2.2 = false) (hn : narrow (rv_ty cl k) (.int v) = .int v) (hfit : fits (rv_ty cl k) (.int v) = true) (hdg : decode X.2.1 pc = .ok (.putfield ix, 3)) (kk : rv_Ev X d (pc + 3) lv st (rv_sI S a k v) r S') : rv_Ev X d pc lv (.int v :: .ref a :: st) S r S' :=
  rv_st2 hf.1 (rv_sI_off S a k v) (fun p l e R s m args below meth c E Q C ad H locs ls n1 n2 hW hS hL kk => rv_putf (v := .int v) C hW hS hf hl (Or.inl hfin) hn hfit (rv_sI_off S a k v) ((rv_fv0 ht).trans (by simp [rv_sI])) (fun j hj => ⟨by simp [rv_sI, hj], rfl, rfl⟩) (fun y b h => hW.2.2.2 a y b h) hdg kk) kk
theorem re_putL {ix a cl n k : Nat} {v : Int64} (hf : rv_is S a (cl, n)) (hl : rv_LF X.1 ix cl k) (ht : rv_tk (rv_ty cl k) = 1) (hfin : (rv_T cl k).2.2.2 = false) (hn : narrow (rv_ty cl k) (.long v) = .long v) (hfit : fits (rv_ty cl k) (.long v) = true) (hdg : decode X.2.1 pc = .ok (.putfield ix, 3)) (kk : rv_Ev X d (pc + 3) lv st (rv_sL S a k v) r S') : rv_Ev X d pc lv (.long v :: .ref a :: st) S r S' :=
  rv_st2 hf.1 (rv_sL_off S a k v) (fun p l e R s m args below meth c E Q C ad H locs ls n1 n2 hW hS hL kk => rv_putf (v := .long v) C hW hS hf hl (Or.inl hfin) hn hfit (rv_sL_off S a k v) ((rv_fv1 ht).trans (by simp [rv_sL])) (fun j hj => ⟨rfl, by simp [rv_sL, hj], rfl⟩) (fun y b h => hW.2.2.2 a y b h) hdg kk) kk
theorem rv_narR {ty : FieldType} (h : rv_tk ty = 2) (a : Nat) : narrow ty (.ref a) = .ref a ∧ fits ty (.ref a) = true := by cases ty <;> first | exact ⟨rfl, rfl⟩ | cases h
theorem re_putR {ix a cl n k v : Nat} (hf : rv_is S a (cl, n)) (hl : rv_LF X.1 ix cl k) (ht : rv_tk (rv_ty cl k) = 2) (hfin : (rv_T cl k).2.2.2 = false ∨ ((rv_T cl k).2.2.2 = true ∧ X.2.2.2.2.1 = true ∧ X.1 = rv_R cl ∧ Cond.fieldLink X.1 ix (rv_R cl) (rv_T cl k).2.1 (rv_T cl k).2.2.1 ∈ rv_wN)) (hv : v < 64 + S.1.length) (hdg : decode X.2.1 pc = .ok (.putfield ix, 3)) (kk : rv_Ev X d (pc + 3) lv st (rv_sR S a k (some v)) r S') : rv_Ev X d pc lv (.ref v :: .ref a :: st) S r S' :=
  rv_st2 hf.1 (rv_sR_off S a k (some v)) (fun p l e R s m args below meth c E Q C ad H locs ls n1 n2 hW hS hL kk => rv_putf (v := .ref (ad v)) C hW hS hf hl hfin (rv_narR ht _).1 (rv_narR ht _).2 (rv_sR_off S a k (some v)) ((rv_fv2 ht).trans (by simp [rv_sR, va_rf])) (fun j hj => ⟨rfl, rfl, by simp [rv_sR, hj]⟩) (fun y b h => by
    by_cases hy : y = k
    · simp [rv_sR, hy] at h; omega
    · simp [rv_sR, hy] at h; exact hW.2.2.2 a y b h) hdg kk) kk
/-- rows -/
theorem rv_cellA {aC : Nat → ClassId} {ad : Nat → Nat} {a t n : Nat} : rv_cell aC ad S a (50 + t, n) = .inl (aC t, rv_arr ad t n (S.2.1 a) (S.2.2.1 a) (S.2.2.2 a)) := by
  unfold rv_cell
  rw [if_neg (by omega), Nat.add_sub_cancel_left]
theorem re_iald {a n : Nat} {i : Int32} (hf : rv_is S a (50, n)) (hin : vp_in i n) (hdg : decode X.2.1 pc = .ok (.iaload, 1)) (kk : rv_Ev X d (pc + 1) lv (.int (S.2.1 a i.toNatClampNeg) :: st) S r S') : rv_Ev X d pc lv (.int i :: .ref a :: st) S r S' :=
  rv_st1 (fun p l e R s m args below meth c E Q C ad H locs ls n1 n2 hW hS hL kk => va_iald C.1 C.2.1 C.2.2.2.2.2.2.2.2.1.1 hW.1 _ 0 (rv_W_get hf) rfl hin hdg (kk ls hL)) kk
theorem re_bald {a n : Nat} {i : Int32} (hf : rv_is S a (52, n)) (hin : vp_in i n) (hdg : decode X.2.1 pc = .ok (.baload, 1)) (kk : rv_Ev X d (pc + 1) lv (.int (S.2.1 a i.toNatClampNeg) :: st) S r S') : rv_Ev X d pc lv (.int i :: .ref a :: st) S r S' :=
  rv_st1 (fun p l e R s m args below meth c E Q C ad H locs ls n1 n2 hW hS hL kk => va_bald C.1 C.2.1 C.2.2.2.2.2.2.2.2.1.1 hW.1 _ 2 (rv_W_get hf) rfl hin hdg (kk ls hL)) kk
theorem re_zald {a n : Nat} {i : Int32} (hf : rv_is S a (53, n)) (hin : vp_in i n) (hdg : decode X.2.1 pc = .ok (.baload, 1)) (kk : rv_Ev X d (pc + 1) lv (.int (S.2.1 a i.toNatClampNeg) :: st) S r S') : rv_Ev X d pc lv (.int i :: .ref a :: st) S r S' :=
  rv_st1 (fun p l e R s m args below meth c E Q C ad H locs ls n1 n2 hW hS hL kk => va_zald C.1 C.2.1 C.2.2.2.2.2.2.2.2.1.1 hW.1 _ 3 (rv_W_get hf) rfl hin hdg (kk ls hL)) kk
theorem re_lald {a n : Nat} {i : Int32} (hf : rv_is S a (51, n)) (hin : vp_in i n) (hdg : decode X.2.1 pc = .ok (.laload, 1)) (kk : rv_Ev X d (pc + 1) lv (.long (S.2.2.1 a i.toNatClampNeg) :: st) S r S') : rv_Ev X d pc lv (.int i :: .ref a :: st) S r S' :=
  rv_st1 (fun p l e R s m args below meth c E Q C ad H locs ls n1 n2 hW hS hL kk => va_lald C.1 C.2.1 C.2.2.2.2.2.2.2.2.1.1 hW.1 _ 1 (rv_W_get hf) rfl hin hdg (kk ls hL)) kk
theorem re_qald {a n t b : Nat} {i : Int32} (ht : t < 3) (hf : rv_is S a (54 + t, n)) (hin : vp_in i n) (hb : S.2.2.2 a i.toNatClampNeg = some b) (hdg : decode X.2.1 pc = .ok (.aaload, 1)) (kk : rv_Ev X d (pc + 1) lv (.ref b :: st) S r S') : rv_Ev X d pc lv (.int i :: .ref a :: st) S r S' :=
  rv_st1 (fun p l e R s m args below meth c E Q C ad H locs ls n1 n2 hW hS hL kk => by
    have hg := rv_W_get (aC := E.2.1) (ad := ad) hf
    have k2 := kk ls hL
    rcases (show t = 0 ∨ t = 1 ∨ t = 2 by omega) with rfl | rfl | rfl
    · exact va_aldq (C := RX11) C.1 C.2.1 C.2.2.2.2.2.2.2.2.1.1 hW.1 _ 4 hg rfl hin hdg (by rw [hb]; exact k2)
    · exact va_aldq (C := RX9) C.1 C.2.1 C.2.2.2.2.2.2.2.2.1.1 hW.1 _ 5 hg rfl hin hdg (by rw [hb]; exact k2)
    · exact va_aldq (C := RX6) C.1 C.2.1 C.2.2.2.2.2.2.2.2.1.1 hW.1 _ 6 hg rfl hin hdg (by rw [hb]; exact k2)) kk
theorem re_alen {a n t : Nat} (ht : t < 7) (hf : rv_is S a (50 + t, n)) (hdg : decode X.2.1 pc = .ok (.arraylength, 1)) (kk : rv_Ev X d (pc + 1) lv (.int (Int32.ofNat n) :: st) S r S') : rv_Ev X d pc lv (.ref a :: st) S r S' :=
  rv_st1 (fun p l e R s m args below meth c E Q C ad H locs ls n1 n2 hW hS hL kk => by
    have hg := rv_W_get (aC := E.2.1) (ad := ad) hf
    rw [rv_cellA] at hg
    refine va_alen C.1 C.2.1 C.2.2.2.2.2.2.2.2.1.1 hW.1 _ t hg (rv_tys_get ht) ?_ hdg (kk ls hL)
    unfold rv_arr
    split <;> rfl) kk
theorem rv_updI {a i : Nat} {x : Int32} : (rv_sI S a i x).2.1 a = upd (S.2.1 a) i x := by funext j; simp [rv_sI, upd]
theorem rv_updL {a i : Nat} {x : Int64} : (rv_sL S a i x).2.2.1 a = vp_updL (S.2.2.1 a) i x := by funext j; simp [rv_sL, vp_updL]
theorem re_iast {a n : Nat} {i x : Int32} (hf : rv_is S a (50, n)) (hin : vp_in i n) (hdg : decode X.2.1 pc = .ok (.iastore, 1)) (kk : rv_Ev X d (pc + 1) lv st (rv_sI S a i.toNatClampNeg x) r S') : rv_Ev X d pc lv (.int x :: .int i :: .ref a :: st) S r S' :=
  rv_st2 hf.1 (rv_sI_off S a _ x) (fun p l e R s m args below meth c E Q C ad H locs ls n1 n2 hW hS hL kk => va_iast C.1 C.2.1 C.2.2.2.2.2.2.2.2.1.1 hW.1 hW.2.1 hS _ 0 (rv_W_get hf) rfl hin hdg (fun H1 locs1 hP hD hS1 => kk H1 locs1 (hW.set (rv_sI_off S a _ x) hf (by show Sum.inl (E.2.1 0, n, Sum.inl ((rv_sI S a i.toNatClampNeg x).2.1 a)) = _; rw [rv_updI]; rfl) (fun y b h => hW.2.2.2 a y b h) hP hD) hS1)) kk
theorem re_bast {a n : Nat} {i x : Int32} (hf : rv_is S a (52, n)) (hin : vp_in i n) (hdg : decode X.2.1 pc = .ok (.bastore, 1)) (kk : rv_Ev X d (pc + 1) lv st (rv_sI S a i.toNatClampNeg (vp_nar .byte x)) r S') : rv_Ev X d pc lv (.int x :: .int i :: .ref a :: st) S r S' :=
  rv_st2 hf.1 (rv_sI_off S a _ (vp_nar .byte x)) (fun p l e R s m args below meth c E Q C ad H locs ls n1 n2 hW hS hL kk => va_bast C.1 C.2.1 C.2.2.2.2.2.2.2.2.1.1 hW.1 hW.2.1 hS _ 2 (rv_W_get hf) rfl hin hdg (fun H1 locs1 hP hD hS1 => kk H1 locs1 (hW.set (rv_sI_off S a _ (vp_nar .byte x)) hf (by show Sum.inl (E.2.1 2, n, Sum.inl ((rv_sI S a i.toNatClampNeg (vp_nar .byte x)).2.1 a)) = _; rw [rv_updI]; rfl) (fun y b h => hW.2.2.2 a y b h) hP hD) hS1)) kk
theorem re_zast {a n : Nat} {i x : Int32} (hf : rv_is S a (53, n)) (hin : vp_in i n) (hdg : decode X.2.1 pc = .ok (.bastore, 1)) (kk : rv_Ev X d (pc + 1) lv st (rv_sI S a i.toNatClampNeg (vp_nar .boolean x)) r S') : rv_Ev X d pc lv (.int x :: .int i :: .ref a :: st) S r S' :=
  rv_st2 hf.1 (rv_sI_off S a _ (vp_nar .boolean x)) (fun p l e R s m args below meth c E Q C ad H locs ls n1 n2 hW hS hL kk => va_zast C.1 C.2.1 C.2.2.2.2.2.2.2.2.1.1 hW.1 hW.2.1 hS _ 3 (rv_W_get hf) rfl hin hdg (fun H1 locs1 hP hD hS1 => kk H1 locs1 (hW.set (rv_sI_off S a _ (vp_nar .boolean x)) hf (by show Sum.inl (E.2.1 3, n, Sum.inl ((rv_sI S a i.toNatClampNeg (vp_nar .boolean x)).2.1 a)) = _; rw [rv_updI]; rfl) (fun y b h => hW.2.2.2 a y b h) hP hD) hS1)) kk
theorem re_last {a n : Nat} {i : Int32} {x : Int64} (hf : rv_is S a (51, n)) (hin : vp_in i n) (hdg : decode X.2.1 pc = .ok (.lastore, 1)) (kk : rv_Ev X d (pc + 1) lv st (rv_sL S a i.toNatClampNeg x) r S') : rv_Ev X d pc lv (.long x :: .int i :: .ref a :: st) S r S' :=
  rv_st2 hf.1 (rv_sL_off S a _ x) (fun p l e R s m args below meth c E Q C ad H locs ls n1 n2 hW hS hL kk => va_last C.1 C.2.1 C.2.2.2.2.2.2.2.2.1.1 hW.1 hW.2.1 hS _ 1 (rv_W_get hf) rfl hin hdg (fun H1 locs1 hP hD hS1 => kk H1 locs1 (hW.set (rv_sL_off S a _ x) hf (by show Sum.inl (E.2.1 1, n, Sum.inr (Sum.inl ((rv_sL S a i.toNatClampNeg x).2.2.1 a))) = _; rw [rv_updL]; rfl) (fun y b h => hW.2.2.2 a y b h) hP hD) hS1)) kk
end RVH

