/-! rules wanted behind the words -/
def yOrd : MethodName := ⟨"java/lang/Enum", "ordinal", "()I"⟩
abbrev mOrd : rvM := ("java/lang/Enum", prog_18_method_2_code, some .int, 1, false, false, none)
section RVO
variable {X : rvM} {d pc : Nat} {lv : List (Nat × Value)} {st : List Value} {S S' : rvS} {r : Option Value}
theorem re_tabInE {dflt lo hi : Int} {offs : Array Int} {len : Nat} {x v : Int32} {off : Int} (tgt : Nat) (hdg : decode X.2.1 pc = .ok (.tableswitch dflt lo hi offs, len)) (hx : x = v) (h1 : ¬ v.toInt < lo) (h2 : ¬ hi < v.toInt) (ho : offs[(v.toInt - lo).toNat]? = some off) (ht : (pc : Int) + off = (tgt : Int)) (k : rv_Ev X d tgt lv st S r S') : rv_Ev X d pc lv (.int x :: st) S r S' := by
  subst hx
  exact re_tabIn tgt hdg h1 h2 ho ht k
theorem re_lookE {dflt : Int} {ps : Array (Int × Int)} {len : Nat} {x v : Int32} {off : Int} (tgt : Nat) (hdg : decode X.2.1 pc = .ok (.lookupswitch dflt ps, len)) (hx : x = v) (hp : (ps.toList.zip (ps.toList.drop 1)).all (fun (a, next) => a.1 < next.1) = true) (ho : Op.lookupswitch.offset ps.toList dflt v.toInt = off) (ht : (pc : Int) + off = (tgt : Int)) (k : rv_Ev X d tgt lv st S r S') : rv_Ev X d pc lv (.int x :: st) S r S' := by
  subst hx
  exact re_lookup tgt hdg hp ho ht k
theorem re_gord {ix i : Nat} (hi : i < 23) (hl : Cond.fieldLink X.1 ix "java/lang/Enum" "ordinal" "I" ∈ rv_wN) (hdg : decode X.2.1 pc = .ok (.getfield ix, 3)) (k : rv_Ev X d (pc + 3) lv (.int (Int32.ofNat i) :: st) S r S') : rv_Ev X d pc lv (.ref i :: st) S r S' :=
  rv_st1 (fun p l e R s m args below meth c E Q C ad H locs ls n1 n2 hW hS hL kk => by
    have k1 := kk ls hL
    simp only [List.map_cons, rv_cv] at k1 ⊢
    rw [hW.2.2.1 i (by omega)]
    refine va_getEc C.1 C.2.1 C.2.2.2.2.2.2.2.2.1.2.2.1.1 (by show i < 23; exact hi) hS C.2.2.2.2.1 (q := ("java/lang/Enum", "ordinal", "I", (List.range 23).map Int32.ofNat)) List.mem_cons_self (C.2.2.2.2.2.1 _ hl) (fun _ h => h) hdg ?_
    have e : ((List.range 23).map Int32.ofNat).getD i 0 = Int32.ofNat i := by simp [List.getD, hi]
    rw [e]
    exact k1) k
theorem met_ord {i : Nat} (hi : i < 23) (S : rvS) : rv_Met yOrd mOrd 0 [.ref i] S (some (.int (Int32.ofNat i))) S := by
  refine rv_Met.of ⟨by decide +kernel, rfl, (fun z => by cases z), rfl⟩ (Nat.le_of_ble_eq_true rfl) rfl ?_
  refine re_aloadn (pc := 0) 0 (lv := [(0, .ref i)]) (by decide +kernel : decode prog_18_method_2_code 0 = .ok (.aload_n 0, 1)) rfl ?_
  refine re_gord (pc := 1) hi (rw10 34 (by decide +kernel) rfl) (by decide +kernel : decode prog_18_method_2_code 1 = .ok (.getfield 7, 3)) ?_
  exact re_iret (fun ty hty => by cases hty; rfl) (by decide +kernel : decode prog_18_method_2_code 4 = .ok (.ireturn, 1))
theorem re_ord {ix i : Nat} (hi : i < 23) (hl : Cond.methodLink X.1 ix ⟨RX11, "ordinal", "()I"⟩ ∈ rv_wN) (hd : 0 < d) (hw : (st.map fun v => v.category).sum ≤ 8) (hdg : decode X.2.1 pc = .ok (.invokevirtual ix, 3)) (k : rv_Ev X d (pc + 3) lv (.int (Int32.ofNat i) :: st) S r S') : rv_Ev X d pc lv (.ref i :: st) S r S' := by
  obtain ⟨hup, hnar, hMet⟩ := met_ord hi S
  have hG : GoodIn rv_wN (va_wsU X.1 ix RX11 "java/lang/Enum" ⟨RX11, "ordinal", "()I"⟩ yOrd (rv_ws yOrd mOrd)) := fun w hw => rv_wN_good w (by
    simp only [va_wsU, List.cons_append, List.nil_append, List.mem_cons] at hw
    rcases hw with rfl | rfl | rfl | rfl | rfl | hw
    · exact hl
    · exact rw3 77 (by decide +kernel) rfl
    · exact rw3 79 (by decide +kernel) rfl
    · exact rw3 80 (by decide +kernel) rfl
    · exact rw1 3 (by decide +kernel) rfl
    · rcases List.mem_cons.mp hw with rfl | hw
      · exact rw3 81 (by decide +kernel) rfl
      · exact hw)
  refine rv_Ev.go (rv_up.rf _ S) (rv_run (v := some (.int (Int32.ofNat i))) (st := st) (y := yOrd) (Y := mOrd) (As := [.ref i]) (rv_okl.k ⟨rfl, rfl⟩) (rv_up.rf _ S) (fun p l e R s m args below meth c0 E C ad H locs ls n1 n2 hW hS hls b1 b2 => ?_)) k
  have hp : PreV s H RX11 (ad i) (rv_Pc E ad H.size S [.ref i]) [] := ⟨rv_blind, by
    rw [hW.2.2.1 i (by omega)]
    exact va_recvEc C.2.2.2.2.2.2.2.2.1.2.2.1.1 (by show i < 23; exact hi) hS, rv_pre C.2.2.2.2.2.2.2.2.1 hS hW⟩
  have hcat : ((st.map (rv_cv ad)).map fun v => v.category) = st.map fun v => v.category := by simp [Function.comp_def, rv_cv_cat]
  have r1 : d ≤ R.frames := C.2.2.2.2.2.2.2.2.2.1
  have r2 : 64 * d ≤ R.locals := C.2.2.2.2.2.2.2.2.2.2.1
  have hR : 0 + 1 ≤ R.frames ∧ 8 + (1 + 11) + 64 * 0 ≤ R.locals := ⟨by omega, by omega⟩
  exact va_runU ⟨C.1, C.2.1, C.2.2.2.1, C.2.2.2.2.1, C.2.2.2.2.2.1⟩ (hMet l E ad H.size C.2.2.2.2.2.2.2.2.2.2.2.2) (va_cwU (ws' := rv_wN) 0 C.2.2.2.2.2.1 hG rfl rfl rfl rfl ⟨by decide +kernel, by decide +kernel, by decide +kernel⟩ hR) hp rfl rfl hls rfl (by show 2 * 0 + _ ≤ 8; rw [hcat]; omega) hdg ⟨b1, b2⟩
theorem rv_st1c {pc1 : Nat} {st1 : List Value} (h : ∀ (p : Program) (l : Launch) (e : Env) (R : Room) (s : State) (m : MethodId) (args : Array Value) (below : List Frame) (meth : Method) (c : Code) (E : rvE) (Q : State → Prop), rv_Cx X d p l R s m args meth c E →
    ∀ (ad : Nat → Nat) (H : Heap) (locs : List Loc) (ls : Array Slot) (n1 n2 : Nat), ls.size = X.2.2.2.1 → n1 ≤ R.cells → n2 ≤ R.slots → W p l e R s m args below meth c H locs n1 n2 Q (F0 m pc1 ls (st1.map (rv_cv ad))) →
    W p l e R s m args below meth c H locs n1 n2 Q (F0 m pc ls (st.map (rv_cv ad)))) (k : rv_Ev X d pc1 lv st1 S r S') : rv_Ev X d pc lv st S r S' :=
  rv_Ev.go (rv_up.rf _ S) (fun p l e R s m args below meth c E Q C ad H locs ls n1 n2 hW hS hl b1 b2 kk => h p l e R s m args below meth c E Q C ad H locs ls n1 n2 hl.1 (by omega) (by omega) (kk ad H locs ls n1 n2 (fun _ _ => rfl) (fun _ => rfl) hW hS hl rfl rfl)) k
theorem re_mmin {ix : Nat} {x y : Int32} (hl : Cond.methodLink X.1 ix Lib.Math.min.name ∈ rv_wN) (hd : 0 < d) (hw : (st.map fun v => v.category).sum ≤ 40) (hdg : decode X.2.1 pc = .ok (.invokestatic ix, 3)) (k : rv_Ev X d (pc + 3) lv (.int (if y < x then y else x) :: st) S r S') : rv_Ev X d pc lv (.int y :: .int x :: st) S r S' :=
  rv_st1c (fun p l e R s m args below meth c E Q C ad H locs ls n1 n2 hls b1 b2 kk => by
    have r1 : d ≤ R.frames := C.2.2.2.2.2.2.2.2.2.1
    have r2 : 64 * d ≤ R.locals := C.2.2.2.2.2.2.2.2.2.2.1
    have hcat : ((st.map (rv_cv ad)).map fun v => v.category) = st.map fun v => v.category := by simp [Function.comp_def, rv_cv_cat]
    exact va_mmin C.1 C.2.1 (by rw [C.2.2.2.1]; exact hls.symm) C.2.2.2.2.1 (C.2.2.2.2.2.1 _ hl) (C.2.2.2.2.2.1 _ (rw5 200 (by decide +kernel) rfl)) (C.2.2.2.2.2.1 _ (rw1 22 (by decide +kernel) rfl)) (C.2.2.2.2.2.1 _ (rw5 201 (by decide +kernel) rfl)) (by omega) (by rw [hcat]; omega) b1 b2 hdg kk) k
theorem re_mmaxL {ix : Nat} {x y : Int64} (hl : Cond.methodLink X.1 ix Lib.MathLoose.max_long.x ∈ rv_wN) (hd : 0 < d) (hw : (st.map fun v => v.category).sum ≤ 40) (hdg : decode X.2.1 pc = .ok (.invokestatic ix, 3)) (k : rv_Ev X d (pc + 3) lv (.long (if y < x then x else y) :: st) S r S') : rv_Ev X d pc lv (.long y :: .long x :: st) S r S' :=
  rv_st1c (fun p l e R s m args below meth c E Q C ad H locs ls n1 n2 hls b1 b2 kk => by
    have r1 : d ≤ R.frames := C.2.2.2.2.2.2.2.2.2.1
    have r2 : 64 * d ≤ R.locals := C.2.2.2.2.2.2.2.2.2.2.1
    have hcat : ((st.map (rv_cv ad)).map fun v => v.category) = st.map fun v => v.category := by simp [Function.comp_def, rv_cv_cat]
    exact va_mmax_long C.1 C.2.1 (by rw [C.2.2.2.1]; exact hls.symm) C.2.2.2.2.1 (C.2.2.2.2.2.1 _ hl) (C.2.2.2.2.2.1 _ (rw4 66 (by decide +kernel) rfl)) (C.2.2.2.2.2.1 _ (rw1 22 (by decide +kernel) rfl)) (C.2.2.2.2.2.1 _ (rw4 67 (by decide +kernel) rfl)) (by omega) (by rw [hcat]; omega) b1 b2 hdg kk) k
end RVO
