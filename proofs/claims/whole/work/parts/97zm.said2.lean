/-! SAID: the reference's count -/
section
variable {n : Nat} {S : rvS} {m : Nat → Nat} {wd : Nat → List Nat}
/-- what a row of steps says of coin c -/
def TS (m : Nat → Nat) (st : List SayT) (c : Nat) : Bool := match evc (b1s m c) st [] with
  | v :: _ => v
  | [] => false
theorem m_saidT (hn : 50 ≤ n) (hk : okm m) {c : Nat} (hcc : c < vC m) {st : List SayT} (h40 : st.length ≤ 40) {d top : Nat} (hB : rv_B S) (hM : MR S m) {t : Nat → Int32} (ht : ∀ j, j < 242 → S.2.1 191 (420 + j) = t j) (hD : Den (m 6) t d top st) : ∃ S', fnX13_holds n 128 S 189 (nI top) (nI c) = some (bI (TS m st c), S') ∧ rvf [199] S S' := by
  obtain ⟨v, S', e, f, p⟩ := m_tree (n := n) (m := m) (c := c) (t := t) (b := b1s m c) (fun k w s a D S hB hM ht h0 e1 h => m_leafS (n := n) hn hk hcc k w s a D S hB hM ht h0 e1 h) st.length top st 128 S (Den_len hD) (by omega) hB hM ht
  refine ⟨S', ?_, f⟩
  have ev : TS m st c = v := by
    unfold TS
    rw [p []]
  rw [ev]
  exact e
end
