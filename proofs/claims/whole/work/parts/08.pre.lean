/-! WORDS by their places in the tables; the methods' codes and names; how fields and methods are reached -/
theorem rt_in {w : Cond} (h : w ∈ tables_1) : w ∈ lw_tbl := List.mem_append_right _ h
theorem rn1 {w : Cond} (j : Nat) (h : tables_1_1[j]? = some w) : w ∈ lw_tbl := rt_in (List.mem_append_left _ (List.mem_of_getElem? h))
theorem rw1 {w : Cond} (j : Nat) (h : tables_1_1[j]? = some w) (g : goodWord w = true) : w ∈ rv_wN := rv_wN_in (rn1 j h) g
theorem rn2 {w : Cond} (j : Nat) (h : tables_1_2[j]? = some w) : w ∈ lw_tbl := rt_in (List.mem_append_right _ (List.mem_append_left _ (List.mem_of_getElem? h)))
theorem rw2 {w : Cond} (j : Nat) (h : tables_1_2[j]? = some w) (g : goodWord w = true) : w ∈ rv_wN := rv_wN_in (rn2 j h) g
theorem rn3 {w : Cond} (j : Nat) (h : tables_1_3[j]? = some w) : w ∈ lw_tbl := rt_in (List.mem_append_right _ (List.mem_append_right _ (List.mem_append_left _ (List.mem_of_getElem? h))))
theorem rw3 {w : Cond} (j : Nat) (h : tables_1_3[j]? = some w) (g : goodWord w = true) : w ∈ rv_wN := rv_wN_in (rn3 j h) g
theorem rn4 {w : Cond} (j : Nat) (h : tables_1_4[j]? = some w) : w ∈ lw_tbl := rt_in (List.mem_append_right _ (List.mem_append_right _ (List.mem_append_right _ (List.mem_append_left _ (List.mem_of_getElem? h)))))
theorem rw4 {w : Cond} (j : Nat) (h : tables_1_4[j]? = some w) (g : goodWord w = true) : w ∈ rv_wN := rv_wN_in (rn4 j h) g
theorem rn5 {w : Cond} (j : Nat) (h : tables_1_5[j]? = some w) : w ∈ lw_tbl := rt_in (List.mem_append_right _ (List.mem_append_right _ (List.mem_append_right _ (List.mem_append_right _ (List.mem_append_left _ (List.mem_of_getElem? h))))))
theorem rw5 {w : Cond} (j : Nat) (h : tables_1_5[j]? = some w) (g : goodWord w = true) : w ∈ rv_wN := rv_wN_in (rn5 j h) g
theorem rn6 {w : Cond} (j : Nat) (h : tables_1_6[j]? = some w) : w ∈ lw_tbl := rt_in (List.mem_append_right _ (List.mem_append_right _ (List.mem_append_right _ (List.mem_append_right _ (List.mem_append_right _ (List.mem_append_left _ (List.mem_of_getElem? h)))))))
theorem rw6 {w : Cond} (j : Nat) (h : tables_1_6[j]? = some w) (g : goodWord w = true) : w ∈ rv_wN := rv_wN_in (rn6 j h) g
theorem rn7 {w : Cond} (j : Nat) (h : tables_1_7[j]? = some w) : w ∈ lw_tbl := rt_in (List.mem_append_right _ (List.mem_append_right _ (List.mem_append_right _ (List.mem_append_right _ (List.mem_append_right _ (List.mem_append_right _ (List.mem_append_left _ (List.mem_of_getElem? h))))))))
theorem rw7 {w : Cond} (j : Nat) (h : tables_1_7[j]? = some w) (g : goodWord w = true) : w ∈ rv_wN := rv_wN_in (rn7 j h) g
theorem rn8 {w : Cond} (j : Nat) (h : tables_1_8[j]? = some w) : w ∈ lw_tbl := rt_in (List.mem_append_right _ (List.mem_append_right _ (List.mem_append_right _ (List.mem_append_right _ (List.mem_append_right _ (List.mem_append_right _ (List.mem_append_right _ (List.mem_append_left _ (List.mem_of_getElem? h)))))))))
theorem rw8 {w : Cond} (j : Nat) (h : tables_1_8[j]? = some w) (g : goodWord w = true) : w ∈ rv_wN := rv_wN_in (rn8 j h) g
theorem rn9 {w : Cond} (j : Nat) (h : tables_1_9[j]? = some w) : w ∈ lw_tbl := rt_in (List.mem_append_right _ (List.mem_append_right _ (List.mem_append_right _ (List.mem_append_right _ (List.mem_append_right _ (List.mem_append_right _ (List.mem_append_right _ (List.mem_append_right _ (List.mem_append_left _ (List.mem_of_getElem? h))))))))))
theorem rw9 {w : Cond} (j : Nat) (h : tables_1_9[j]? = some w) (g : goodWord w = true) : w ∈ rv_wN := rv_wN_in (rn9 j h) g
theorem rn10 {w : Cond} (j : Nat) (h : tables_1_10[j]? = some w) : w ∈ lw_tbl := rt_in (List.mem_append_right _ (List.mem_append_right _ (List.mem_append_right _ (List.mem_append_right _ (List.mem_append_right _ (List.mem_append_right _ (List.mem_append_right _ (List.mem_append_right _ (List.mem_append_right _ ((List.mem_of_getElem? h)))))))))))
theorem rw10 {w : Cond} (j : Nat) (h : tables_1_10[j]? = some w) (g : goodWord w = true) : w ∈ rv_wN := rv_wN_in (rn10 j h) g
theorem rwp {w : Cond} (j : Nat) (h : (k2_sels lw_privs)[j]? = some w) (g : goodWord w = true) : w ∈ rv_wN := rv_wN_in (List.mem_append_left _ (List.mem_of_getElem? h)) g
theorem rwoi : Cond.instanceMethod Lib.objectInit ∈ rv_wN := rw1 29 (by decide +kernel) rfl
theorem rwoc : Cond.code Lib.objectInit ⟨#[0xb1]⟩ 1 none ∈ rv_wN := rw1 30 (by decide +kernel) rfl
def rv_gV (S : rvS) (c a k : Nat) : Option Nat := (rv_gR S c a k).bind fun x => if x < 64 + S.1.length then some x else none
theorem rv_gV_e {S : rvS} {c a k x : Nat} (h : rv_gV S c a k = some x) : rv_gR S c a k = some x ∧ x < 64 + S.1.length := by
  obtain ⟨y, h1, h2⟩ := rv_b_e h
  split at h2
  · rename_i h3
    cases h2
    exact ⟨h1, h3⟩
  · cases h2
theorem rv_pI_sh {S S1 : rvS} {c a k : Nat} {v : Int32} (h : rv_pI S c a k v = some S1) : S1.1 = S.1 := by
  unfold rv_pI at h
  split at h <;> cases h
  rfl
theorem rv_pL_sh {S S1 : rvS} {c a k : Nat} {v : Int64} (h : rv_pL S c a k v = some S1) : S1.1 = S.1 := by
  unfold rv_pL at h
  split at h <;> cases h
  rfl
theorem rv_pR_sh {S S1 : rvS} {c a k : Nat} {v : Nat} (h : rv_pR S c a k v = some S1) : S1.1 = S.1 := by
  unfold rv_pR at h
  split at h
  · split at h <;> cases h
    rfl
  · cases h
theorem rv_uI_sh {S S1 : rvS} {a : Nat} {i v : Int32} (h : rv_uI S a i v = some S1) : S1.1 = S.1 := by
  obtain ⟨n, h1, h2, h3⟩ := rv_two h
  cases h3
  rfl
theorem rv_uB_sh {S S1 : rvS} {a : Nat} {i v : Int32} (h : rv_uB S a i v = some S1) : S1.1 = S.1 := by
  obtain ⟨n, h1, h2, h3⟩ := rv_two h
  cases h3
  rfl
theorem rv_uZ_sh {S S1 : rvS} {a : Nat} {i v : Int32} (h : rv_uZ S a i v = some S1) : S1.1 = S.1 := by
  obtain ⟨n, h1, h2, h3⟩ := rv_two h
  cases h3
  rfl
theorem rv_uL_sh {S S1 : rvS} {a : Nat} {i : Int32} {v : Int64} (h : rv_uL S a i v = some S1) : S1.1 = S.1 := by
  obtain ⟨n, h1, h2, h3⟩ := rv_two h
  cases h3
  rfl
theorem rv_uW_sh {S S1 : rvS} {a v : Nat} {i : Int32} (h : rv_uW S a i v = some S1) : S1.1 = S.1 := by
  obtain ⟨n, h1, h2, h3⟩ := rv_two h
  split at h3 <;> cases h3
  rfl
theorem rv_uQ_sh {S S1 : rvS} {t c a v : Nat} {i : Int32} (h : rv_uQ S t c a i v = some S1) : S1.1 = S.1 := by
  obtain ⟨n, h1, h2, h3⟩ := rv_two h
  split at h3 <;> cases h3
  rfl
theorem rv_okn {S S1 : rvS} {q : Nat × Nat} {a : Nat} (g : rv_new S q = S1) (h : a < 64 + S.1.length) : a < 64 + S1.1.length := by rw [← g, rv_len_new]; omega
theorem rv_okn0 {S S1 : rvS} {q : Nat × Nat} (g : rv_new S q = S1) : 64 + S.1.length < 64 + S1.1.length := by rw [← g, rv_len_new]; omega
def rv_vl (S : rvS) (a : Nat) : Option Unit := if a < 64 + S.1.length then some () else none
theorem rv_vl_e {S : rvS} {a : Nat} {u : Unit} (h : rv_vl S a = some u) : a < 64 + S.1.length := by
  unfold rv_vl at h
  split at h
  · assumption
  · cases h
theorem rv_lo {S : rvS} {k : Nat} (h : k < 64) : k < 64 + S.1.length := Nat.lt_of_lt_of_le h (Nat.le_add_right 64 _)
theorem rv_alv {S : rvS} {lv : List (Nat × Value)} (h : ∀ v ∈ lv.map (fun q => q.2), rv_okv S v) : ∀ q ∈ lv, rv_okv S q.2 := fun q hq => h q.2 (List.mem_map.mpr ⟨q, hq, rfl⟩)
