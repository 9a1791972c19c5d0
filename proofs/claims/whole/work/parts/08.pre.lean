/-! WORDS by their places in the tables; the methods' codes and names; how fields and methods are reached -/
theorem rt_in {w : Cond} (h : w ∈ tables_1) : w ∈ lw_tbl := List.mem_append_right _ h
theorem rn1 {w : Cond} (j : Nat) (h : tables_1_1[j]? = some w) : w ∈ lw_tbl := rt_in (List.mem_append_left _ (List.mem_of_getElem? h))
theorem rw1 {w : Cond} (j : Nat) (h : tables_1_1[j]? = some w) (g : goodWord w = true) : w ∈ rv_wN := rv_wN_in (rn1 j h) g
theorem rn2 {w : Cond} (j : Nat) (h : tables_1_2[j]? = some w) : w ∈ lw_tbl := rt_in (List.mem_append_right _ (List.mem_append_left _ (List.mem_of_getElem? h)))
theorem rw2 {w : Cond} (j : Nat) (h : tables_1_2[j]? = some w) (g : goodWord w = true) : w ∈ rv_wN := rv_wN_in (rn2 j h) g
theorem rn3 {w : Cond} (j : Nat) (h : tables_1_3[j]? = some w) : w ∈ lw_tbl := rt_in (List.mem_append_right _ (List.mem_append_right _ (List.mem_append_left _ (List.mem_of_getElem? h))))
theorem rw3 {w : Cond} (j : Nat) (h : tables_1_3[j]? = some w) (g : goodWord w = true) : w ∈ rv_wN := rv_wN_in (rn3 j h) g
theorem rn4 {w : Cond} (j : Nat) (h : tables_1_4[j]? = some w) : w ∈ lw_tbl := rt_in (List.mem_append_right _ (List.mem_append_right _ (List.mem_append_right _ (List.mem_append_left _ (List.mem_of_getElem? h)))))
theorem rw4 {w : Cond} (j : Nat) (h : tables_1_4[j]? = some w) (g : goodWord w = true) : w ∈ rv_wN := rv_wN_in (rn4 j h) g
theorem rn5 {w : Cond} (j : Nat) (h : tables_1_5[j]? = some w) : w ∈ lw_tbl := rt_in (List.mem_append_right _ (List.mem_append_right _ (List.mem_append_right _ (List.mem_append_right _ (List.mem_append_left _ (List.mem_of_getElem? h))))))
theorem rw5 {w : Cond} (j : Nat) (h : tables_1_5[j]? = some w) (g : goodWord w = true) : w ∈ rv_wN := rv_wN_in (rn5 j h) g
theorem rn6 {w : Cond} (j : Nat) (h : tables_1_6[j]? = some w) : w ∈ lw_tbl := rt_in (List.mem_append_right _ (List.mem_append_right _ (List.mem_append_right _ (List.mem_append_right _ (List.mem_append_right _ (List.mem_append_left _ (List.mem_of_getElem? h)))))))
theorem rw6 {w : Cond} (j : Nat) (h : tables_1_6[j]? = some w) (g : goodWord w = true) : w ∈ rv_wN := rv_wN_in (rn6 j h) g
theorem rn7 {w : Cond} (j : Nat) (h : tables_1_7[j]? = some w) : w ∈ lw_tbl := rt_in (List.mem_append_right _ (List.mem_append_right _ (List.mem_append_right _ (List.mem_append_right _ (List.mem_append_right _ (List.mem_append_right _ (List.mem_append_left _ (List.mem_of_getElem? h))))))))
theorem rw7 {w : Cond} (j : Nat) (h : tables_1_7[j]? = some w) (g : goodWord w = true) : w ∈ rv_wN := rv_wN_in (rn7 j h) g
theorem rn8 {w : Cond} (j : Nat) (h : tables_1_8[j]? = some w) : w ∈ lw_tbl := rt_in (List.mem_append_right _ (List.mem_append_right _ (List.mem_append_right _ (List.mem_append_right _ (List.mem_append_right _ (List.mem_append_right _ (List.mem_append_right _ (List.mem_append_left _ (List.mem_of_getElem? h)))))))))
theorem rw8 {w : Cond} (j : Nat) (h : tables_1_8[j]? = some w) (g : goodWord w = true) : w ∈ rv_wN := rv_wN_in (rn8 j h) g
theorem rn9 {w : Cond} (j : Nat) (h : tables_1_9[j]? = some w) : w ∈ lw_tbl := rt_in (List.mem_append_right _ (List.mem_append_right _ (List.mem_append_right _ (List.mem_append_right _ (List.mem_append_right _ (List.mem_append_right _ (List.mem_append_right _ (List.mem_append_right _ (List.mem_append_left _ (List.mem_of_getElem? h))))))))))
theorem rw9 {w : Cond} (j : Nat) (h : tables_1_9[j]? = some w) (g : goodWord w = true) : w ∈ rv_wN := rv_wN_in (rn9 j h) g
theorem rn10 {w : Cond} (j : Nat) (h : tables_1_10[j]? = some w) : w ∈ lw_tbl := rt_in (List.mem_append_right _ (List.mem_append_right _ (List.mem_append_right _ (List.mem_append_right _ (List.mem_append_right _ (List.mem_append_right _ (List.mem_append_right _ (List.mem_append_right _ (List.mem_append_right _ ((List.mem_of_getElem? h)))))))))))
theorem rw10 {w : Cond} (j : Nat) (h : tables_1_10[j]? = some w) (g : goodWord w = true) : w ∈ rv_wN := rv_wN_in (rn10 j h) g
theorem rwp {w : Cond} (j : Nat) (h : (k2_sels lw_privs)[j]? = some w) (g : goodWord w = true) : w ∈ rv_wN := rv_wN_in (List.mem_append_left _ (List.mem_of_getElem? h)) g
theorem rwoi : Cond.instanceMethod Lib.objectInit ∈ rv_wN := rw1 29 (by decide +kernel) rfl
theorem rwoc : Cond.code Lib.objectInit ⟨#[0xb1]⟩ 1 none ∈ rv_wN := rw1 30 (by decide +kernel) rfl
def rv_gV (S : rvS) (c a k : Nat) : Option Nat := (rv_gR S c a k).bind fun x => if x < 64 + S.1.length then some x else none
theorem rv_gV_e {S : rvS} {c a k x : Nat} (h : rv_gV S c a k = some x) : rv_gR S c a k = some x ∧ x < 64 + S.1.length := by
  obtain ⟨y, h1, h2⟩ := rv_b_e h
  split at h2
  · rename_i h3
    cases h2
    exact ⟨h1, h3⟩
  · cases h2
theorem rv_pI_sh {S S1 : rvS} {c a k : Nat} {v : Int32} (h : rv_pI S c a k v = some S1) : S1.1 = S.1 := by
  unfold rv_pI at h
  split at h <;> cases h
  rfl
theorem rv_pL_sh {S S1 : rvS} {c a k : Nat} {v : Int64} (h : rv_pL S c a k v = some S1) : S1.1 = S.1 := by
  unfold rv_pL at h
  split at h <;> cases h
  rfl
theorem rv_pR_sh {S S1 : rvS} {c a k : Nat} {v : Nat} (h : rv_pR S c a k v = some S1) : S1.1 = S.1 := by
  unfold rv_pR at h
  split at h
  · split at h <;> cases h
    rfl
  · cases h
theorem rv_uI_sh {S S1 : rvS} {a : Nat} {i v : Int32} (h : rv_uI S a i v = some S1) : S1.1 = S.1 := by
  obtain ⟨n, h1, h2, h3⟩ := rv_two h
  cases h3
  rfl
theorem rv_uB_sh {S S1 : rvS} {a : Nat} {i v : Int32} (h : rv_uB S a i v = some S1) : S1.1 = S.1 := by
  obtain ⟨n, h1, h2, h3⟩ := rv_two h
  cases h3
  rfl
theorem rv_uZ_sh {S S1 : rvS} {a : Nat} {i v : Int32} (h : rv_uZ S a i v = some S1) : S1.1 = S.1 := by
  obtain ⟨n, h1, h2, h3⟩ := rv_two h
  cases h3
  rfl
theorem rv_uL_sh {S S1 : rvS} {a : Nat} {i : Int32} {v : Int64} (h : rv_uL S a i v = some S1) : S1.1 = S.1 := by
  obtain ⟨n, h1, h2, h3⟩ := rv_two h
  cases h3
  rfl
theorem rv_uW_sh {S S1 : rvS} {a v : Nat} {i : Int32} (h : rv_uW S a i v = some S1) : S1.1 = S.1 := by
  obtain ⟨n, h1, h2, h3⟩ := rv_two h
  split at h3 <;> cases h3
  rfl
theorem rv_uQ_sh {S S1 : rvS} {t c a v : Nat} {i : Int32} (h : rv_uQ S t c a i v = some S1) : S1.1 = S.1 := by
  obtain ⟨n, h1, h2, h3⟩ := rv_two h
  split at h3 <;> cases h3
  rfl
theorem rv_okn {S S1 : rvS} {q : Nat × Nat} {a : Nat} (g : rv_new S q = S1) (h : a < 64 + S.1.length) : a < 64 + S1.1.length := by rw [← g, rv_len_new]; omega
theorem rv_okn0 {S S1 : rvS} {q : Nat × Nat} (g : rv_new S q = S1) : 64 + S.1.length < 64 + S1.1.length := by rw [← g, rv_len_new]; omega
theorem rv_alv {S : rvS} {lv : List (Nat × Value)} (h : ∀ v ∈ lv.map (fun q => q.2), rv_okv S v) : ∀ q ∈ lv, rv_okv S q.2 := fun q hq => h q.2 (List.mem_map.mpr ⟨q, hq, rfl⟩)
def yOrd : MethodName := ⟨"java/lang/Enum", "ordinal", "()I"⟩
abbrev mOrd : rvM := ("java/lang/Enum", prog_18_method_2_code, some .int, 1, false, false, none)
section RVO
variable {X : rvM} {d pc : Nat} {lv : List (Nat × Value)} {st : List Value} {S S' : rvS} {r : Option Value}
theorem re_tabInE {dflt lo hi : Int} {offs : Array Int} {len : Nat} {x v : Int32} {off : Int} (tgt : Nat) (hdg : decode X.2.1 pc = .ok (.tableswitch dflt lo hi offs, len)) (hx : x = v) (h1 : ¬ v.toInt < lo) (h2 : ¬ hi < v.toInt) (ho : offs[(v.toInt - lo).toNat]? = some off) (ht : (pc : Int) + off = (tgt : Int)) (k : rv_Ev X d tgt lv st S r S') : rv_Ev X d pc lv (.int x :: st) S r S' := by
  subst hx
  exact re_tabIn tgt hdg h1 h2 ho ht k
theorem re_lookE {dflt : Int} {ps : Array (Int × Int)} {len : Nat} {x v : Int32} {off : Int} (tgt : Nat) (hdg : decode X.2.1 pc = .ok (.lookupswitch dflt ps, len)) (hx : x = v) (hp : (ps.toList.zip (ps.toList.drop 1)).all (fun (a, next) => a.1 < next.1) = true) (ho : Op.lookupswitch.offset ps.toList dflt v.toInt = off) (ht : (pc : Int) + off = (tgt : Int)) (k : rv_Ev X d tgt lv st S r S') : rv_Ev X d pc lv (.int x :: st) S r S' := by
  subst hx
  exact re_lookup tgt hdg hp ho ht k
theorem re_gord {ix i : Nat} (hi : i < 23) (hl : Cond.fieldLink X.1 ix "java/lang/Enum" "ordinal" "I" ∈ rv_wN) (hdg : decode X.2.1 pc = .ok (.getfield ix, 3)) (k : rv_Ev X d (pc + 3) lv (.int (Int32.ofNat i) :: st) S r S') : rv_Ev X d pc lv (.ref i :: st) S r S' :=
  rv_st1 (fun p l e R s m args below meth c E Q C ad H locs ls n1 n2 hW hS hL kk => by
    have k1 := kk ls hL
    simp only [List.map_cons, rv_cv] at k1 ⊢
    rw [hW.2.2.1 i (by omega)]
    refine va_getEc C.1 C.2.1 C.2.2.2.2.2.2.2.2.1.2.2.1.1 (by show i < 23; exact hi) hS C.2.2.2.2.1 (q := ("java/lang/Enum", "ordinal", "I", (List.range 23).map Int32.ofNat)) List.mem_cons_self (C.2.2.2.2.2.1 _ hl) (fun _ h => h) hdg ?_
    have e : ((List.range 23).map Int32.ofNat).getD i 0 = Int32.ofNat i := by simp [List.getD, hi]
    rw [e]
    exact k1) k
theorem met_ord {i : Nat} (hi : i < 23) (S : rvS) : rv_Met yOrd mOrd 0 [.ref i] S (some (.int (Int32.ofNat i))) S := by
  refine rv_Met.of ⟨by decide +kernel, rfl, (fun z => by cases z), rfl⟩ (Nat.le_of_ble_eq_true rfl) rfl ?_
  refine re_aloadn (pc := 0) 0 (lv := [(0, .ref i)]) (by decide +kernel : decode prog_18_method_2_code 0 = .ok (.aload_n 0, 1)) rfl ?_
  refine re_gord (pc := 1) hi (rw10 28 (by decide +kernel) rfl) (by decide +kernel : decode prog_18_method_2_code 1 = .ok (.getfield 7, 3)) ?_
  exact re_iret (fun ty hty => by cases hty; rfl) (by decide +kernel : decode prog_18_method_2_code 4 = .ok (.ireturn, 1))
theorem re_ord {ix i : Nat} (hi : i < 23) (hl : Cond.methodLink X.1 ix ⟨RX11, "ordinal", "()I"⟩ ∈ rv_wN) (hd : 0 < d) (hw : (st.map fun v => v.category).sum ≤ 8) (hdg : decode X.2.1 pc = .ok (.invokevirtual ix, 3)) (k : rv_Ev X d (pc + 3) lv (.int (Int32.ofNat i) :: st) S r S') : rv_Ev X d pc lv (.ref i :: st) S r S' := by
  obtain ⟨hup, hnar, hMet⟩ := met_ord hi S
  have hG : GoodIn rv_wN (va_wsU X.1 ix RX11 "java/lang/Enum" ⟨RX11, "ordinal", "()I"⟩ yOrd (rv_ws yOrd mOrd)) := fun w hw => rv_wN_good w (by
    simp only [va_wsU, List.cons_append, List.nil_append, List.mem_cons] at hw
    rcases hw with rfl | rfl | rfl | rfl | rfl | hw
    · exact hl
    · exact rw3 80 (by decide +kernel) rfl
    · exact rw3 82 (by decide +kernel) rfl
    · exact rw3 83 (by decide +kernel) rfl
    · exact rw1 3 (by decide +kernel) rfl
    · rcases List.mem_cons.mp hw with rfl | hw
      · exact rw3 84 (by decide +kernel) rfl
      · exact hw)
  refine rv_Ev.go (rv_up.rf _ S) (rv_run (v := some (.int (Int32.ofNat i))) (st := st) (y := yOrd) (Y := mOrd) (As := [.ref i]) (rv_okl.k rfl) (rv_up.rf _ S) (fun p l e R s m args below meth c0 E C ad H locs ls n1 n2 hW hS hls b1 b2 => ?_)) k
  have hp : PreV s H RX11 (ad i) (rv_Pc E ad H.size S [.ref i]) [] := ⟨rv_blind, by
    rw [hW.2.2.1 i (by omega)]
    exact va_recvEc C.2.2.2.2.2.2.2.2.1.2.2.1.1 (by show i < 23; exact hi) hS, rv_pre C.2.2.2.2.2.2.2.2.1 hS hW⟩
  have hcat : ((st.map (rv_cv ad)).map fun v => v.category) = st.map fun v => v.category := by simp [Function.comp_def, rv_cv_cat]
  have r1 : d ≤ R.frames := C.2.2.2.2.2.2.2.2.2.1
  have r2 : 64 * d ≤ R.locals := C.2.2.2.2.2.2.2.2.2.2.1
  have hR : 0 + 1 ≤ R.frames ∧ 8 + (1 + 11) + 64 * 0 ≤ R.locals := ⟨by omega, by omega⟩
  exact va_runU ⟨C.1, C.2.1, C.2.2.2.1, C.2.2.2.2.1, C.2.2.2.2.2.1⟩ (hMet l E ad H.size) (va_cwU (ws' := rv_wN) 0 C.2.2.2.2.2.1 hG rfl rfl rfl rfl ⟨by decide +kernel, by decide +kernel, by decide +kernel⟩ hR) hp rfl rfl hls rfl (by show 2 * 0 + _ ≤ 8; rw [hcat]; omega) hdg ⟨b1, b2⟩
end RVO
