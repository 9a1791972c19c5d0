/-! EVER: the reference leaves one out (rims with names) -/
section
variable {n : Nat} {S : rvS} {m : Nat → Nat} {s0 : St} {wd : Nat → List Nat}
theorem m_x90 (hn : 50 ≤ n) (hB : rv_B S) (hM : MR S m) (hk : okm m) (hl0 : s0.2.length ≤ vN m) {c : Cf} (hb : BI m s0 c) (hcap : c.1 ≤ 255640) (hQ : RQ S c) {x : KW} (hE : EWR S c x) (hlen : x.2.length ≤ c.1) {o b : Nat} {r : List Nat} (hr : r.length ≤ 2) (ho : o < vW m) {A B : Int32} (hA : ∀ y, r[0]? = some y → A = nI y) (hBB : ∀ y, r[1]? = some y → B = nI y) (K : Nat → Int32 → Int32 → Int32 → Int32 → Int32 → Int32 → Int32 → rvS → Option (Int32 × rvS)) {x9 t0 t1 : Int32} (ht : ¬ t1 ≤ t0) {p : St} (hop : okS m p)
    (hpos : inC c p = true → gok m p o → 1 ≤ x.1 p ∧ x.1 p ≤ 24) (hc : (p = (b, r) ∧ (x9 < 0 ∨ ¬ r.length + 1 = vN m)) ∨ (∃ y, p = (b, r ++ [y]) ∧ x9 = nI y ∧ y < 24 ∧ r.length + 1 = vN m)) : ∃ S', cX13_leaveOut_111 n K S 189 (nI x.2.length) (nI o) (nI (r.length + 1)) (nI b) A B x9 t0 t1 = K 189 (nI (lo1 m c o x p).2.length) (nI o) (nI (r.length + 1)) (nI b) A B (x9 + 1) S' ∧ rvf LD S S' ∧ EWR S' c (lo1 m c o x p) := by
  obtain ⟨hp, hcc, -⟩ := id hk
  have hN := hcc.2.1
  obtain ⟨S5, f5, H5, E5⟩ := m_c0 (n := n) hB hM (b := b) hr hA hBB K (nI x.2.length) (nI o) x9 t0 t1 ht
  have hB5 := f5.B hB
  rcases hc with ⟨ep, hx9⟩ | ⟨y, ep, ey, hy, hfull⟩
  · subst ep
    obtain ⟨S6, e6, f6, E6⟩ := m_lo (n := n) hn hB5 (hM.f f5 rfl) hk hl0 hb (hQ.f f5 rfl rfl rfl) (hE.f f5 rfl rfl) (Nat.le_trans hlen hcap) (p := (b, r)) H5 hop ho hpos K (nI (r.length + 1)) (nI b) A B x9
    refine ⟨S6, E5 _ ?_, (f5.mono rfl).tr (f6.mono rfl), E6⟩
    rcases hx9 with h | h
    · rw [if_pos h]
      split
      · exact e6
      · exact e6
    · rw [if_neg (by rw [n_eq (by omega) (by omega)]; exact h)]
      exact e6
  · subst ep
    subst ey
    obtain ⟨S6, eS6⟩ : ∃ S6, S6 = rv_sI S5 199 1 (nI (r.length + 1)) := ⟨_, rfl⟩
    have f6 : rvf [199] S5 S6 := by rw [eS6]; exact (rvf.rf _ _).w rfl rfl
    have hB6 := f6.B hB5
    obtain ⟨S7, eS7⟩ : ∃ S7, S7 = rv_sI S6 199 (1 + (r.length + 1)) (nI y) := ⟨_, rfl⟩
    have f7 : rvf [199] S6 S7 := by rw [eS7]; exact (rvf.rf _ _).w rfl rfl
    have hB7 := f7.B hB6
    have f57 := f5.tr (f6.tr f7)
    have H7 : HR S7 b (r ++ [y]) := by
      obtain ⟨h0, h1, h2⟩ := H5
      refine ⟨?_, ?_, fun i z hz => ?_⟩
      · rw [eS7, rv_sI_k _ _ (by omega), eS6, rv_sI_k _ _ (by decide)]; exact h0
      · rw [eS7, rv_sI_k _ _ (by omega), eS6, rv_sI_eq, List.length_append]; rfl
      · by_cases ci : i < r.length
        · rw [List.getElem?_append_left ci] at hz
          rw [eS7, rv_sI_k _ _ (by omega), eS6, rv_sI_k _ _ (by omega)]
          exact h2 i z hz
        · by_cases ei : i = r.length
          · rw [ei, List.getElem?_append_right (Nat.le_refl _), Nat.sub_self] at hz
            have : y = z := Option.some.inj hz
            rw [ei, eS7, show 2 + r.length = 1 + (r.length + 1) by omega, rv_sI_eq, this]
          · rw [List.getElem?_eq_none (by rw [List.length_append]; show r.length + 1 ≤ i; omega)] at hz
            exact absurd hz (by simp)
    obtain ⟨S8, e8, f8, E8⟩ := m_lo (n := n) hn hB7 (hM.f f57 rfl) hk hl0 hb (hQ.f f57 rfl rfl rfl) (hE.f f57 rfl rfl) (Nat.le_trans hlen hcap) (p := (b, r ++ [y])) H7 hop ho hpos K (nI (r.length + 1)) (nI b) A B (nI y)
    refine ⟨S8, E5 _ ?_, (f57.mono rfl).tr (f8.mono rfl), E8⟩
    have ny : ¬ nI y < (0 : Int32) := nI_pos (by omega)
    have r24 := rf_of hB5 (show (189, 24, 199) ∈ rv_rf0 by decide)
    have r24a := rf_of hB6 (show (189, 24, 199) ∈ rv_rf0 by decide)
    rw [if_pos (by rw [n_eq (by omega) (by omega)]; exact hfull), if_neg ny, z1, nI_add]
    repeat (first | (conv => (lhs; arg 1; simp (disch := first | assumption | omega) only [tk_gI, tk_gL, tk_gR, tk_pI, tk_pL, rv_aI, rv_aL, rv_aR, rv_uI, rv_uL, rv_uB, rv_uZ, pu_ckI, pu_ckL, pu_lnI, pu_lnL, tk_rI, tk_rL, Option.bind_some, Option.map_some, rv_lt, tk_ix, rc_189 hB5, r24, rn_199 hB5, ← eS6, rc_189 hB6, r24a, rn_199 hB6, ← eS7])); first | rw [Option.bind_some] | rw [bp_s] | rw [if_true] | rw [if_false] | rw [rv_lt_eq] | rw [if_pos (by omega)] | rw [if_neg (by omega)])
    exact e8
theorem m_len90 (hB : rv_B S) (hM : MR S m) (q : Nat) (x3 x4 x6 x7 x8 x9 : Int32) {N1 : Nat} (h1 : N1 ≤ 3) (h3 : vN m ≤ 3) : cX13_leaveOut_90 n (q + 1) S 189 x3 x4 (nI N1) x6 x7 x8 x9 = cX13_leaveOut_111 n (fun a0 x3 x4 x5 x6 x7 x8 x9 S => cX13_leaveOut_90 n q S a0 x3 x4 x5 x6 x7 x8 x9) S 189 x3 x4 (nI N1) x6 x7 x8 x9 x9 (if vN m ≤ N1 then nI (vW m) else nI 1) := by
  have hN : S.2.1 191 3 = nI (vN m) := hM 3 (by decide)
  rw [cX13_leaveOut_90]
  repeat (first | (conv => (lhs; arg 1; simp (disch := first | assumption | omega) only [tk_gI, tk_gL, tk_gR, tk_pI, tk_pL, rv_aI, rv_aL, rv_aR, rv_uI, rv_uL, rv_uB, rv_uZ, pu_ckI, pu_ckL, pu_lnI, pu_lnL, tk_rI, tk_rL, Option.bind_some, Option.map_some, rv_lt, tk_ix, z0, z1, z2, z3, z4, z5, z6, z7, z8, z9, z10, z11, z12, z13, z15, z16, z17, z18, z20, z21, z23, z24, z25, z31, z32, z39, z40, z41, z46, z48, z50, z57, z59, z60, z61, z62, z63, z64, z97, z98, z99, z100, z101, z102, z103, z104, z105, z106, z107, z108, z109, z110, z111, z112, z113, z114, z115, z116, z117, z118, z119, z120, z121, z122, z128, z132, z200, z240, z255, z372, z390625, z400, z420, z421, z422, z662, z900, z940, z999, z1000, z1024, z2000, z5860, z10000, z12345, z15625, z266240, z1048575, z1064960, z1103515245, z_m1, rc_189 hB, rf_of hB (show (189, 14, 191) ∈ rv_rf0 by decide), rn_191 hB, hN])); first | rw [Option.bind_some] | rw [bp_s] | rw [if_true] | rw [if_false] | rw [rv_lt_eq] | rw [if_pos (by omega)] | rw [if_neg (by omega)])
  by_cases c1 : vN m ≤ N1
  · rw [if_pos (show nI (vN m) ≤ nI N1 by rw [n_le (by omega) (by omega)]; exact c1), if_pos c1, rc_189 hB, Option.bind_some, m_whos hB hM, Option.bind_some]
  · rw [if_neg (show ¬ nI (vN m) ≤ nI N1 by rw [n_le (by omega) (by omega)]; exact c1), if_neg c1, z1]
/-- a full rim: the row of all who may have stood last -/
theorem m_full (hn : 50 ≤ n) (hk : okm m) (hl0 : s0.2.length ≤ vN m) {c : Cf} (hb : BI m s0 c) (hcap : c.1 ≤ 255640) {P : List St} {s : St} (hs : okS m s) (hsP : s ∉ P) (hl : s.2.length ≤ vN m) {b : Nat} {r : List Nat} (esr : s.2 = b :: r) (hfull : r.length + 1 = vN m) {A B : Int32} (hA : ∀ y, r[0]? = some y → A = nI y) (hBB : ∀ y, r[1]? = some y → B = nI y) {x : KW} (h : MI m c P s [(b, r)] x) : ∀ k y q (S : rvS), y + k = vW m → rv_B S → MR S m → RQ S c → EWR S c (Fl m c s.1 (fun z => (b, r ++ [z])) x y) → ∃ S', cX13_leaveOut_90 n (q + k + 1) S 189 (nI (Fl m c s.1 (fun z => (b, r ++ [z])) x y).2.length) (nI s.1) (nI (r.length + 1)) (nI b) A B (nI y) = some (nI (Fl m c s.1 (fun z => (b, r ++ [z])) x (vW m)).2.length, S') ∧ rvf LD S S' ∧ EWR S' c (Fl m c s.1 (fun z => (b, r ++ [z])) x (vW m)) := by
  obtain ⟨hp, hc, -⟩ := id hk
  have h24 := hp.1
  have h3 := hc.2.1
  have hsl := hs.2
  rw [esr] at hsl
  have hbW : b < vW m := hsl.2 b List.mem_cons_self
  have hrW : ∀ z ∈ r, z < vW m := fun z hz => hsl.2 z (List.mem_cons_of_mem _ hz)
  have hnd : ∀ y, ([(b, r)] ++ (List.range y).map (fun z => ((b, r ++ [z]) : St))).Nodup := fun y => by
    refine List.nodup_cons.mpr ⟨fun hm => ?_, nodup_map_range (fun a b' e => ?_) y⟩
    · obtain ⟨z, -, e⟩ := List.mem_map.mp hm
      have : (r ++ [z]).length = r.length := congrArg List.length (congrArg Prod.snd e)
      rw [List.length_append] at this
      simp at this
    · have : r ++ [a] = r ++ [b'] := congrArg Prod.snd e
      exact List.head_eq_of_cons_eq (List.append_cancel_left this)
  have hf : ∀ y, y < vW m → ((b, r ++ [y]) : St) ∈ cand m s := fun y hy => by
    unfold cand
    rw [if_neg (by omega), esr]
    show _ ∈ (b, r) :: (if r.length + 1 < vN m then [] else _)
    rw [if_neg (by omega)]
    exact List.mem_cons_of_mem _ (List.mem_map.mpr ⟨y, List.mem_range.mpr hy, rfl⟩)
  intro k
  induction k with
  | zero =>
    intro y q S hy hB hM hQ hE
    have e : y = vW m := by omega
    subst e
    refine ⟨S, ?_, rvf.rf _ _, hE⟩
    rw [show q + 0 + 1 = q + 1 by omega, m_len90 hB hM q _ _ _ _ _ _ (by omega) h3, if_pos (show vN m ≤ r.length + 1 by omega), cX13_leaveOut_111, if_pos (by rw [n_le (by omega) (by omega)]; omega)]
  | succ k ih =>
    intro y q S hy hB hM hQ hE
    have hyW : y < vW m := by omega
    have mi := MI_Fl (m := m) hs.1 hsP hl hnd hf h (y := y) (by omega)
    have hx := cand_nx hl (hf y hyW)
    have hpos := MI_pos h24 hs.1 hsP mi (notmem_Fl hnd y) hx
    have hlen := MI_len hb mi
    have hop : okS m ((b, r ++ [y]) : St) := ⟨hbW, by show (r ++ [y]).length ≤ 3; rw [List.length_append]; show r.length + 1 ≤ 3; omega, fun z hz => by
      rcases List.mem_append.mp hz with hz | hz
      · exact hrW z hz
      · rw [List.mem_singleton.mp hz]; exact hyW⟩
    obtain ⟨S3, e3, f3, E3⟩ := m_x90 (n := n) hn hB hM hk hl0 hb hcap hQ hE hlen (o := s.1) (b := b) (r := r) (by omega) hs.1 hA hBB (fun a0 x3 x4 x5 x6 x7 x8 x9 S => cX13_leaveOut_90 n (q + k + 1) S a0 x3 x4 x5 x6 x7 x8 x9) (x9 := nI y) (t0 := nI y) (t1 := nI (vW m)) (by rw [n_le (by omega) (by omega)]; omega) hop hpos (Or.inr ⟨y, rfl, rfl, by omega, hfull⟩)
    rw [← Fl_s] at e3 E3
    have hB3 := f3.B hB
    obtain ⟨S4, e4, f4, E4⟩ := ih (y + 1) q S3 (by omega) hB3 (hM.f f3 rfl) (hQ.f f3 rfl rfl rfl) E3
    refine ⟨S4, ?_, f3.tr f4, E4⟩
    rw [show q + (k + 1) + 1 = q + k + 1 + 1 by omega, m_len90 hB hM (q + k + 1) _ _ _ _ _ _ (by omega) h3, if_pos (show vN m ≤ r.length + 1 by omega), e3, z1, nI_add]
    exact e4
end
