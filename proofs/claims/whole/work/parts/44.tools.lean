/-! READS AND WRITES over the cells of the start: what they come to -/
def rv_B (S : rvS) : Prop := (∃ ex, S.1 = rv_sh0 ++ ex) ∧ ∀ q ∈ rv_rf0, S.2.2.2 q.1 q.2.1 = some q.2.2
theorem rv_B.at {S : rvS} (h : rv_B S) {a : Nat} {q : Nat × Nat} (hq : rv_sh0[a - 64]? = some q) : S.1[a - 64]? = some q := by
  obtain ⟨⟨ex, e⟩, -⟩ := h
  rw [e, List.getElem?_append_left (List.getElem?_eq_some_iff.mp hq).1]
  exact hq
theorem rv_B.isB {S : rvS} (h : rv_B S) {a : Nat} {q : Nat × Nat} (h64 : Nat.ble 64 a = true) (hq : rv_sh0[a - 64]? = some q) : rv_isB S a q = true := rv_isB_iff.mpr ⟨Nat.le_of_ble_eq_true h64, h.at hq⟩
theorem rv_B.ck {S : rvS} (h : rv_B S) {c a : Nat} (h64 : Nat.ble 64 a = true) (hq : rv_sh0[a - 64]? = some (c, rv_N c)) : rv_ck S c a = some () := if_pos (h.isB h64 hq)
theorem rv_B.gI {S : rvS} (h : rv_B S) {c a : Nat} (k : Nat) (h64 : Nat.ble 64 a = true) (hq : rv_sh0[a - 64]? = some (c, rv_N c)) : rv_gI S c a k = some (S.2.1 a k) := if_pos (h.isB h64 hq)
theorem rv_B.gL {S : rvS} (h : rv_B S) {c a : Nat} (k : Nat) (h64 : Nat.ble 64 a = true) (hq : rv_sh0[a - 64]? = some (c, rv_N c)) : rv_gL S c a k = some (S.2.2.1 a k) := if_pos (h.isB h64 hq)
theorem rv_B.gR {S : rvS} (h : rv_B S) {c a k b : Nat} (h64 : Nat.ble 64 a = true) (hq : rv_sh0[a - 64]? = some (c, rv_N c)) (hr : (a, k, b) ∈ rv_rf0) : rv_gR S c a k = some b := (if_pos (h.isB h64 hq)).trans (h.2 _ hr)
theorem rv_B.pI {S : rvS} (h : rv_B S) {c a : Nat} (k : Nat) (v : Int32) (h64 : Nat.ble 64 a = true) (hq : rv_sh0[a - 64]? = some (c, rv_N c)) : rv_pI S c a k v = some (rv_sI S a k v) := if_pos (h.isB h64 hq)
theorem rv_B.pL {S : rvS} (h : rv_B S) {c a : Nat} (k : Nat) (v : Int64) (h64 : Nat.ble 64 a = true) (hq : rv_sh0[a - 64]? = some (c, rv_N c)) : rv_pL S c a k v = some (rv_sL S a k v) := if_pos (h.isB h64 hq)
theorem rv_B.ln {S : rvS} (h : rv_B S) {t a n : Nat} (h64 : Nat.ble 64 a = true) (hq : rv_sh0[a - 64]? = some (50 + t, n)) : rv_ln S t a = some n := by
  unfold rv_ln
  rw [if_pos (Nat.le_of_ble_eq_true h64), h.at hq]
  exact if_pos rfl
theorem rv_ix_of {n j : Nat} (hj : j < n) (hn : n < 2 ^ 31) : rv_ix n (nI j) = some j := by
  have e : (nI j).toNatClampNeg = j := nI_clamp (Nat.lt_trans hj hn)
  unfold rv_ix
  rw [e, if_neg]
  rintro (h | h)
  · rw [Int32.lt_iff_toInt_lt, nI_toInt (Nat.lt_trans hj hn)] at h
    exact absurd h (by show ¬ (j : Int) < 0; omega)
  · omega
theorem rv_B.aI {S : rvS} (h : rv_B S) {t a n j : Nat} (h64 : Nat.ble 64 a = true) (hq : rv_sh0[a - 64]? = some (50 + t, n)) (hj : j < n) (hn : n < 2 ^ 31) : rv_aI S t a (nI j) = some (S.2.1 a j) := by
  unfold rv_aI
  rw [h.ln h64 hq, Option.bind_some, rv_ix_of hj hn, Option.bind_some]
theorem rv_B.aL {S : rvS} (h : rv_B S) {a n j : Nat} (h64 : Nat.ble 64 a = true) (hq : rv_sh0[a - 64]? = some (51, n)) (hj : j < n) (hn : n < 2 ^ 31) : rv_aL S a (nI j) = some (S.2.2.1 a j) := by
  unfold rv_aL
  rw [h.ln (t := 1) h64 hq, Option.bind_some, rv_ix_of hj hn, Option.bind_some]
theorem rv_B.aR {S : rvS} (h : rv_B S) {t a n j : Nat} (h64 : Nat.ble 64 a = true) (hq : rv_sh0[a - 64]? = some (50 + t, n)) (hj : j < n) (hn : n < 2 ^ 31) : rv_aR S t a (nI j) = S.2.2.2 a j := by
  unfold rv_aR
  rw [h.ln h64 hq, Option.bind_some, rv_ix_of hj hn, Option.bind_some]
theorem rv_B.uI {S : rvS} (h : rv_B S) {a n j : Nat} (v : Int32) (h64 : Nat.ble 64 a = true) (hq : rv_sh0[a - 64]? = some (50, n)) (hj : j < n) (hn : n < 2 ^ 31) : rv_uI S a (nI j) v = some (rv_sI S a j v) := by
  unfold rv_uI
  rw [h.ln (t := 0) h64 hq, Option.bind_some, rv_ix_of hj hn, Option.bind_some]
theorem rv_B.uB {S : rvS} (h : rv_B S) {a n j : Nat} (v : Int32) (h64 : Nat.ble 64 a = true) (hq : rv_sh0[a - 64]? = some (52, n)) (hj : j < n) (hn : n < 2 ^ 31) : rv_uB S a (nI j) v = some (rv_sI S a j (vp_nar .byte v)) := by
  unfold rv_uB
  rw [h.ln (t := 2) h64 hq, Option.bind_some, rv_ix_of hj hn, Option.bind_some]
theorem rv_B.uZ {S : rvS} (h : rv_B S) {a n j : Nat} (v : Int32) (h64 : Nat.ble 64 a = true) (hq : rv_sh0[a - 64]? = some (53, n)) (hj : j < n) (hn : n < 2 ^ 31) : rv_uZ S a (nI j) v = some (rv_sI S a j (vp_nar .boolean v)) := by
  unfold rv_uZ
  rw [h.ln (t := 3) h64 hq, Option.bind_some, rv_ix_of hj hn, Option.bind_some]
theorem rv_B.uL {S : rvS} (h : rv_B S) {a n j : Nat} (v : Int64) (h64 : Nat.ble 64 a = true) (hq : rv_sh0[a - 64]? = some (51, n)) (hj : j < n) (hn : n < 2 ^ 31) : rv_uL S a (nI j) v = some (rv_sL S a j v) := by
  unfold rv_uL
  rw [h.ln (t := 1) h64 hq, Option.bind_some, rv_ix_of hj hn, Option.bind_some]
/-- what is read where something was written -/
theorem rv_sI_eq (S : rvS) (a k : Nat) (v : Int32) : (rv_sI S a k v).2.1 a k = v := if_pos ⟨rfl, rfl⟩
theorem rv_sI_k (S : rvS) {a k k' : Nat} (v : Int32) (h : k' ≠ k) (b : Nat) : (rv_sI S a k v).2.1 b k' = S.2.1 b k' := if_neg (fun z => h z.2)
theorem rv_sI_a (S : rvS) {a b : Nat} (k : Nat) (v : Int32) (h : b ≠ a) (k' : Nat) : (rv_sI S a k v).2.1 b k' = S.2.1 b k' := if_neg (fun z => h z.1)
theorem rv_sL_eq (S : rvS) (a k : Nat) (v : Int64) : (rv_sL S a k v).2.2.1 a k = v := if_pos ⟨rfl, rfl⟩
theorem rv_sL_k (S : rvS) {a k k' : Nat} (v : Int64) (h : k' ≠ k) (b : Nat) : (rv_sL S a k v).2.2.1 b k' = S.2.2.1 b k' := if_neg (fun z => h z.2)
theorem rv_sL_a (S : rvS) {a b : Nat} (k : Nat) (v : Int64) (h : b ≠ a) (k' : Nat) : (rv_sL S a k v).2.2.1 b k' = S.2.2.1 b k' := if_neg (fun z => h z.1)
/-- all but some rows of ints and longs is as it was -/
def rv_fr (D : List Nat) (S S' : rvS) : Prop := S'.1 = S.1 ∧ S'.2.2.2 = S.2.2.2 ∧ ∀ a, a ∉ D → S'.2.1 a = S.2.1 a ∧ S'.2.2.1 a = S.2.2.1 a
theorem rv_fr.rf (D : List Nat) (S : rvS) : rv_fr D S S := ⟨rfl, rfl, fun _ _ => ⟨rfl, rfl⟩⟩
theorem rv_fr.tr {D : List Nat} {S S1 S2 : rvS} (h : rv_fr D S S1) (k : rv_fr D S1 S2) : rv_fr D S S2 := ⟨k.1.trans h.1, k.2.1.trans h.2.1, fun a ha => ⟨(k.2.2 a ha).1.trans (h.2.2 a ha).1, (k.2.2 a ha).2.trans (h.2.2 a ha).2⟩⟩
theorem rv_fr.mono {D D' : List Nat} {S S' : rvS} (h : rv_fr D S S') (hd : ∀ a ∈ D, a ∈ D') : rv_fr D' S S' := ⟨h.1, h.2.1, fun a ha => h.2.2 a (fun z => ha (hd a z))⟩
theorem rv_fr.sI (S : rvS) (a k : Nat) (v : Int32) : rv_fr [a] S (rv_sI S a k v) := ⟨rfl, rfl, fun b hb => ⟨by
  have h : b ≠ a := fun z => hb (by rw [z]; exact List.mem_singleton_self a)
  funext y
  exact rv_sI_a S k v h y, rfl⟩⟩
theorem rv_fr.sL (S : rvS) (a k : Nat) (v : Int64) : rv_fr [a] S (rv_sL S a k v) := ⟨rfl, rfl, fun b hb => ⟨rfl, by
  have h : b ≠ a := fun z => hb (by rw [z]; exact List.mem_singleton_self a)
  funext y
  exact rv_sL_a S k v h y⟩⟩
theorem rv_fr.B {D : List Nat} {S S' : rvS} (h : rv_fr D S S') (hB : rv_B S) : rv_B S' := by
  obtain ⟨h1, h2, -⟩ := h
  unfold rv_B
  rw [h1, h2]
  exact hB
/-! a read or write behind writes, in terms of the state ahead of them: unconditional, for simp -/
section RVPU
variable (S : rvS) (a k : Nat) (v : Int32) (w : Int64) (c t b x n : Nat) (i u : Int32) (y : Int64)
theorem pu_ckI : rv_ck (rv_sI S a k v) c b = rv_ck S c b := rfl
theorem pu_ckL : rv_ck (rv_sL S a k w) c b = rv_ck S c b := rfl
theorem pu_gRI : rv_gR (rv_sI S a k v) c b x = rv_gR S c b x := rfl
theorem pu_gRL : rv_gR (rv_sL S a k w) c b x = rv_gR S c b x := rfl
theorem pu_lnI : rv_ln (rv_sI S a k v) t b = rv_ln S t b := rfl
theorem pu_lnL : rv_ln (rv_sL S a k w) t b = rv_ln S t b := rfl
theorem pu_aRI : rv_aR (rv_sI S a k v) t b i = rv_aR S t b i := rfl
theorem pu_aRL : rv_aR (rv_sL S a k w) t b i = rv_aR S t b i := rfl
theorem pu_gII : rv_gI (rv_sI S a k v) c b x = (rv_ck S c b).map (fun _ => (rv_sI S a k v).2.1 b x) := by
  show (if rv_isB S b (c, rv_N c) = true then _ else _) = Option.map _ (if rv_isB S b (c, rv_N c) = true then _ else _)
  split <;> rfl
theorem pu_gIL : rv_gI (rv_sL S a k w) c b x = rv_gI S c b x := rfl
theorem pu_gLI : rv_gL (rv_sI S a k v) c b x = rv_gL S c b x := rfl
theorem pu_gLL : rv_gL (rv_sL S a k w) c b x = (rv_ck S c b).map (fun _ => (rv_sL S a k w).2.2.1 b x) := by
  show (if rv_isB S b (c, rv_N c) = true then _ else _) = Option.map _ (if rv_isB S b (c, rv_N c) = true then _ else _)
  split <;> rfl
theorem pu_pII : rv_pI (rv_sI S a k v) c b x u = (rv_ck S c b).map (fun _ => rv_sI (rv_sI S a k v) b x u) := by
  show (if rv_isB S b (c, rv_N c) = true then _ else _) = Option.map _ (if rv_isB S b (c, rv_N c) = true then _ else _)
  split <;> rfl
theorem pu_pIL : rv_pI (rv_sL S a k w) c b x u = (rv_ck S c b).map (fun _ => rv_sI (rv_sL S a k w) b x u) := by
  show (if rv_isB S b (c, rv_N c) = true then _ else _) = Option.map _ (if rv_isB S b (c, rv_N c) = true then _ else _)
  split <;> rfl
theorem pu_pLI : rv_pL (rv_sI S a k v) c b x y = (rv_ck S c b).map (fun _ => rv_sL (rv_sI S a k v) b x y) := by
  show (if rv_isB S b (c, rv_N c) = true then _ else _) = Option.map _ (if rv_isB S b (c, rv_N c) = true then _ else _)
  split <;> rfl
theorem pu_pLL : rv_pL (rv_sL S a k w) c b x y = (rv_ck S c b).map (fun _ => rv_sL (rv_sL S a k w) b x y) := by
  show (if rv_isB S b (c, rv_N c) = true then _ else _) = Option.map _ (if rv_isB S b (c, rv_N c) = true then _ else _)
  split <;> rfl
end RVPU
