/-! VALLEY: the whole call, both sides -/
section
variable {n : Nat} {S C R : rvS} {b : Nat → Nat} {L M a : Nat} {m : Nat → Nat} {wd : Nat → List Nat}
abbrev DVF : List Nat := [64011, 65001, 65002, 65003, 65004, 65005, 65006, 65007, 65008, 65009, 65010, 87, 88, 89, 90, 91, 92, 93, 94, 95, 96, 97, 98, 99, 104, 105, 106, 189000, 189002, 189003, 189004, 189005, 189006, 189007, 189008, 189009, 189010, 189011, 189012, 189013, 189022, 189023, 191, 192, 196]
abbrev DVL : List Nat := DVF ++ [67, 68, 69, 70, 71, 72, 73, 74, 75, 76, 77, 78, 79, 80, 81, 82, 83, 84, 85, 86, 195]
theorem allNo {l D : List Nat} (h1 : 218 ≤ a) (h2 : a < 2000) (h : l.all (fun x => !D.elem x && (decide (x < 218) || decide (2000 ≤ x))) = true) : l.all (fun x => !(D ++ [a]).elem x) = true := List.all_eq_true.mpr fun x hx => by
  have := List.all_eq_true.mp h x hx
  simp only [Bool.and_eq_true, Bool.or_eq_true, decide_eq_true_eq, Bool.not_eq_true'] at this
  cases e : (D ++ [a]).elem x
  · rfl
  · rcases List.mem_append.mp (List.elem_iff.mp e) with z | z
    · rw [List.elem_iff.mpr z] at this; exact absurd this.1 (by decide)
    · have := List.mem_singleton.mp z; omega
theorem oneNo {D : List Nat} (h1 : 218 ≤ a) (h2 : a < 2000) {x : Nat} (h : (!D.elem x && (decide (x < 218) || decide (2000 ≤ x))) = true) : (D ++ [a]).elem x = false := by
  have := allNo (l := [x]) (D := D) h1 h2 (by rw [List.all_cons, h]; rfl)
  simpa using this
theorem memA {D D' : List Nat} (h : D.all (fun d => D'.elem d) = true) : ∀ d, d ∈ D → d ∈ D' ++ [a] := fun d hd => List.mem_append.mpr (Or.inl (List.elem_iff.mp (List.all_eq_true.mp h d hd)))
theorem memA2 {D D' : List Nat} (h : D.all (fun d => D'.elem d) = true) : ∀ d, d ∈ D ++ [a] → d ∈ D' ++ [a] := fun d hd => by
  rcases List.mem_append.mp hd with z | z
  · exact memA h d z
  · exact List.mem_append.mpr (Or.inr z)
theorem op_valley (hn : 1000 ≤ n) {o : Nat} {st : List SayT} (hW : NW S m wd o st) (ht : rv_tp S L) (hlen : S.1.length < 1900) : ∃ r S1 S' m' wd' o' st' a f, fnX12_valley n S 64 = some (r, S1) ∧ fnX13_valley n S1 189 = some (r, S') ∧ NW S' m' wd' o' st' ∧ rv_tp S' 0 ∧ S'.2.1 64 11 = nI f ∧ S'.2.1 189 10 = nI f ∧ 218 ≤ a ∧ a < 2000 ∧ S'.1 = S.1 ++ [(9, 8)] ∧ rvq (DVL ++ [a]) S S' := by
  obtain ⟨hV, hCS, hCp⟩ := hW
  obtain ⟨hB, hR, hL, hk, hNC, hNM, hok⟩ := id hV
  obtain ⟨b, hTB⟩ := TB_of ht
  obtain ⟨t1, t2, t3, t4⟩ := id hTB
  obtain ⟨C1, eO, fO, tO, kO, o9, o10⟩ := k_openT (n := n) hn hB hTB (M := 900) (by decide)
  have hB1 := fO.B hB
  have len1 : C1.1 = S.1 := fO.1
  obtain ⟨C2, a, ea, hB2, i2, sh2, rows2, z2a, eI⟩ := newVT (n := n) hB1 (by rw [len1]; exact hlen)
  have a1 := i2.1
  have a2 := i2.2.1
  have tc2 := tO.c (C2 := C2) (fun x hx => (rows2 x (by omega)).1)
  have kc2 := kO.c (C2 := C2) (rows2 65 (by omega)).1 (rows2 65 (by omega)).2.1 (by rw [(rows2 65 (by omega)).2.2])
  obtain ⟨C3, eE, fE, R3c, s4, s5⟩ := k_emptyD (n := n) hn hB2
  have hB3 := fE.B hB2
  have i3 : isVT C3 a := i2.f fE rfl
  have hv : vb 87 := Or.inr (Or.inl rfl)
  have hv67 : vb 67 := Or.inl rfl
  have c3z : ∀ k, C3.2.1 a k = nI 0 := fun k => (i2.rest fE rfl k).trans (z2a k)
  have q2 : rvq [a] C1 C2 := ⟨⟨fun q hq => by have := rf_lt q hq; rw [(rows2 q.1 (by omega)).2.2], fun x k hx => by
    have : x ≠ a := fun z => hx (by rw [z, lc_a i2]; exact List.mem_singleton_self a)
    rw [(rows2 x this).2.2]⟩, fun x k hx => by
    have : x ≠ a := fun z => hx (by rw [z, lc_a i2]; exact List.mem_singleton_self a)
    rw [(rows2 x this).1, (rows2 x this).2.1]; exact ⟨rfl, rfl⟩⟩
  have q3 : rvq (DVF ++ [a]) S C3 := ((fO.q.mono (memA rfl)).tr (q2.mono (fun d hd => List.mem_append.mpr (Or.inr hd)))).tr (fE.q.mono (memA rfl))
  have run : ∀ Z, rv_B Z → MRL Z m → Z.2.1 189 2 = nI L → (∀ j, j < L → b j < 256 ∧ Z.2.1 190 j = nI (b j)) → ∃ RZ, fnX13_valley n Z 189 = cX13_valley_21 n n RZ 189 (nI 0) ∧ rvf (DBg ++ [189023, 192]) Z RZ ∧ MR RZ m ∧ R42 Z RZ ∧ (¬ RZ.2.1 189 22 = 0) ∧ RZ.2.1 189 2 = nI 0 ∧ RZ.2.1 189 10 = nI 0 ∧ LNS n n n 0 C3 RZ a b L 900 := by
    intro Z hZ hLZ g2 gb
    obtain ⟨RZ, e1, f1, x1, k1, d1, d23, mm, r42, b22, p2, p10⟩ := m_vbegin (n := n) hn hZ hLZ t1 g2 gb
    have T0 := tx_mono (b := b) (M := 900) (Nat.zero_le L)
    have hK : KX C3 RZ b L 900 (tq_nx b L 900 0) := ⟨hB3, f1.B hZ, tc2.f fE rfl rfl rfl, x1, kc2.f fE rfl, k1, tx_ok t1 (by decide) (fun j hj => (t4 j hj).1) (Nat.zero_le L), tx_to (Nat.zero_le L), p10⟩
    have hDR : DRF C3 RZ plN (fun _ => []) := ⟨R3c, fun w hw => absurd hw (Nat.not_lt_zero w), d1, fun w hw => absurd hw (Nat.not_lt_zero w), plN_okv⟩
    refine ⟨RZ, e1, f1, mm, r42, b22, p2, p10, ?_⟩
    exact vt_lines (n := n) hn L 0 n n C3 RZ _ plN _ false false false (by omega) (by omega) (by omega) ⟨hK, i3, hDR⟩ ⟨c3z 5, c3z 6, c3z 7, d23⟩ (c3z 2) (Nat.zero_le _) (fun z => T0.2 (by omega) (by omega))
  have hLf : ∀ Z, rvq (DVL ++ [a]) S Z → Z.2.1 191 = S.2.1 191 → Z.2.1 189 22 = S.2.1 189 22 → MRL Z m := fun Z _ h1 h2 k hk => by
    rw [h1, h2]; exact hL k hk
  obtain ⟨RS, -, -, -, -, -, -, -, lns⟩ := run S hB hL t3 (fun j hj => ⟨(t4 j hj).1, (t4 j hj).2.1⟩)
  obtain ⟨C4, R4, fc4, -, res⟩ := lns
  have hB4 : rv_B C4 := fc4.B hB3
  have sh4 : C4.1 = S.1 ++ [(9, 8)] := by rw [fc4.1, fE.1, sh2, len1]
  have q4 : rvq (DVF ++ [a]) S C4 := q3.tr (fc4.q.mono (memA2 rfl))
  have hl154 : 154 ≤ S.1.length := by
    obtain ⟨⟨ex, e1⟩, -⟩ := hB
    rw [e1, List.length_append, sh0_len]; omega
  have r640 : ∀ {Z : rvS}, rv_B Z → Z.2.2.2 64 0 = some 65 := fun h => rf_of h (by decide)
  have r641 : ∀ {Z : rvS}, rv_B Z → Z.2.2.2 64 1 = some 67 := fun h => rf_of h (by decide)
  have r642 : ∀ {Z : rvS}, rv_B Z → Z.2.2.2 64 2 = some 87 := fun h => rf_of h (by decide)
  have gv : ∀ {Z : rvS} {k x : Nat}, rv_B Z → Z.2.2.2 64 k = some x → x < 218 → rv_gV Z 10 64 k = some x := fun {Z} {k} {x} h e hx => by
    have hz : 154 ≤ Z.1.length := by
      obtain ⟨⟨ex, e1⟩, -⟩ := h
      rw [e1, List.length_append, sh0_len]; omega
    unfold rv_gV
    rw [tk_gR, rc_64 h, Option.bind_some, e, Option.bind_some, if_pos (by omega)]
  have vl : ∀ {Z : rvS} {x : Nat}, x < 64 + Z.1.length → rv_vl Z x = some () := fun h => if_pos h
  have c4l : C4.1.length = S.1.length + 1 := by rw [sh4, List.length_append]; rfl
  have al : a = 64 + S.1.length := by rw [ea, len1]
  have top : ∀ X, (rv_bp (cX10_read_9 n n C3 a (nI 0)) fun x38_ S39_ => if x38_ = 0 then cX12_valley_46 n S39_ 64 a x38_ else (rv_gV S39_ 10 64 1).bind fun a48_ => (rv_gV S39_ 10 64 2).bind fun a51_ => (rv_ck S39_ 8 a48_).bind fun u54_ => (fnX9_copyFrom n S39_ a48_ a51_).bind fun S57_ => cX12_valley_46 n S57_ 64 a x38_) = X → fnX12_valley n S 64 = X := fun X hX => by
    have eO : fnX8_open n S 65 (900 : Int32) = some C1 := eO
    have er : fnX10_read n C2 a = cX10_read_9 n n C3 a (nI 0) := by
      rw [fnX10_read]
      repeat (first | (conv => (lhs; arg 1; simp (disch := first | assumption | omega) only [tk_gI, tk_gL, tk_gR, tk_pI, tk_pL, rv_aI, rv_aL, rv_aR, rv_uI, rv_uL, rv_uB, rv_uZ, pu_ckI, pu_ckL, pu_lnI, pu_lnL, tk_rI, tk_rL, Option.bind_some, Option.map_some, rv_lt, tk_ix, i2.ck, i2.2.2.2.2, rc_87 hB2])); first | rw [Option.bind_some] | rw [bp_s] | rw [if_true] | rw [if_false] | rw [rv_lt_eq] | rw [if_pos (by omega)] | rw [if_neg (by omega)])
      rw [eE]
      rfl
    have hBn : rv_gV (rv_new C1 (9, rv_N 9)) 10 64 0 = some 65 ∧ rv_gV (rv_new C1 (9, rv_N 9)) 10 64 2 = some 87 := by
      have hBx : rv_B (rv_new C1 (9, rv_N 9)) := by
        obtain ⟨⟨ex, e1⟩, h2⟩ := hB1
        refine ⟨⟨ex ++ [(9, rv_N 9)], ?_⟩, fun q hq => ?_⟩
        · show C1.1 ++ [(9, rv_N 9)] = _
          rw [e1, List.append_assoc]
        · have := rf_lt q hq
          show (if q.1 = 64 + C1.1.length then none else C1.2.2.2 q.1 q.2.1) = _
          rw [if_neg (by rw [len1]; omega)]
          exact h2 q hq
      exact ⟨gv hBx (r640 hBx) (by decide), gv hBx (r642 hBx) (by decide)⟩
    rw [fnX12_valley, vl (by omega), Option.bind_some, gv hB (r640 hB) (by decide), Option.bind_some, rc_65 hB, Option.bind_some, eO, Option.bind_some, rv_lt_eq, rv_lt_eq, hBn.1, Option.bind_some, hBn.2, Option.bind_some, ← ea, eI, Option.bind_some, i2.ck, Option.bind_some, er]
    exact hX
  have close0 : ∀ {Z : rvS} (x y : Int32), rv_B Z → x = 0 → fnX12_closeTape n Z 64 x y = some ((-1 : Int32) - Z.2.1 65 10, rv_sI (rv_sI Z 64 11 (Z.2.1 65 9)) 65 1 (nI 0)) := fun {Z} x y h hx => by
    have c64 := rc_64 h
    have c65 := rc_65 h
    have e0 := r640 h
    have s10 : (rv_sI (rv_sI Z 64 11 (Z.2.1 65 9)) 65 1 (nI 0)).2.1 65 10 = Z.2.1 65 10 := by rw [rv_sI_k _ _ (by decide), rv_sI_a _ _ _ (by decide)]
    rw [fnX12_closeTape, if_pos hx]
    repeat (first | (conv => (lhs; arg 1; simp (disch := first | assumption | omega) only [tk_gI, tk_gL, tk_gR, tk_pI, tk_pL, rv_aI, rv_aL, rv_aR, rv_uI, rv_uL, rv_uB, rv_uZ, pu_ckI, pu_ckL, pu_lnI, pu_lnL, tk_rI, tk_rL, Option.bind_some, Option.map_some, rv_lt, tk_ix, c64, c65, e0])); first | rw [Option.bind_some] | rw [bp_s] | rw [if_true] | rw [if_false] | rw [rv_lt_eq] | rw [if_pos (by omega)] | rw [if_neg (by omega)])
    rw [cX12_closeTape_16]
    repeat (first | (conv => (lhs; arg 1; simp (disch := first | assumption | omega) only [tk_gI, tk_gL, tk_gR, tk_pI, tk_pL, rv_aI, rv_aL, rv_aR, rv_uI, rv_uL, rv_uB, rv_uZ, pu_ckI, pu_ckL, pu_lnI, pu_lnL, tk_rI, tk_rL, Option.bind_some, Option.map_some, rv_lt, tk_ix, z0, c64, c65, e0])); first | rw [Option.bind_some] | rw [bp_s] | rw [if_true] | rw [if_false] | rw [rv_lt_eq] | rw [if_pos (by omega)] | rw [if_neg (by omega)])
    rw [if_pos hx]
    repeat (first | (conv => (lhs; arg 1; simp (disch := first | assumption | omega) only [tk_gI, tk_gL, tk_gR, tk_pI, tk_pL, rv_aI, rv_aL, rv_aR, rv_uI, rv_uL, rv_uB, rv_uZ, pu_ckI, pu_ckL, pu_lnI, pu_lnL, tk_rI, tk_rL, Option.bind_some, Option.map_some, rv_lt, tk_ix, c64, c65, e0, s10])); first | rw [Option.bind_some] | rw [bp_s] | rw [if_true] | rw [if_false] | rw [rv_lt_eq] | rw [if_pos (by omega)] | rw [if_neg (by omega)])
  have close1 : ∀ {Z : rvS} (x y : Int32), rv_B Z → ¬ x = 0 → fnX12_closeTape n Z 64 x y = some (y, rv_sI (rv_sI Z 64 11 (nI 0)) 65 1 (nI 0)) := fun {Z} x y h hx => by
    have c64 := rc_64 h
    have c65 := rc_65 h
    have e0 := r640 h
    rw [fnX12_closeTape, if_neg hx, cX12_closeTape_16]
    repeat (first | (conv => (lhs; arg 1; simp (disch := first | assumption | omega) only [tk_gI, tk_gL, tk_gR, tk_pI, tk_pL, rv_aI, rv_aL, rv_aR, rv_uI, rv_uL, rv_uB, rv_uZ, pu_ckI, pu_ckL, pu_lnI, pu_lnL, tk_rI, tk_rL, Option.bind_some, Option.map_some, rv_lt, tk_ix, z0, c64, c65, e0])); first | rw [Option.bind_some] | rw [bp_s] | rw [if_true] | rw [if_false] | rw [rv_lt_eq] | rw [if_pos (by omega)] | rw [if_neg (by omega)])
    rw [if_neg hx]
  rcases res with ⟨eC, -, -⟩ | ⟨i0, T0, m0, wd0, eC, -, -, -, -⟩
  · -- a fault
    obtain ⟨S1, eS1⟩ : ∃ S1, S1 = rv_sI (rv_sI C4 64 11 (C4.2.1 65 9)) 65 1 (nI 0) := ⟨_, rfl⟩
    have f1 : rvf [64011, 65001] C4 S1 := by
      rw [eS1]
      exact ((rvf.sI C4 64 11 _).mono rfl).tr ((rvf.sI _ 65 1 _).mono rfl)
    have hBS1 := f1.B hB4
    have q1 : rvq (DVF ++ [a]) S S1 := q4.tr (f1.q.mono (memA rfl))
    have n190 : ∀ k, S1.2.1 190 k = S.2.1 190 k := fun k => (f1.row (a := 190) rfl rfl k).trans ((fc4.row (a := 190) rfl (oneNo a1 a2 rfl) k).trans ((fE.row (a := 190) rfl rfl k).trans ((congrFun (rows2 190 (by omega)).1 k).trans (fO.row (a := 190) rfl rfl k))))
    have n191 : S1.2.1 191 = S.2.1 191 := funext fun k => (f1.row (a := 191) rfl rfl k).trans ((fc4.row (a := 191) rfl (oneNo a1 a2 rfl) k).trans ((fE.row (a := 191) rfl rfl k).trans ((congrFun (rows2 191 (by omega)).1 k).trans (fO.row (a := 191) rfl rfl k))))
    have n189 : ∀ k, S1.2.1 189 k = S.2.1 189 k := fun k => by
      have g1 : S1.2.1 189 k = C4.2.1 189 k := (f1.2.2 189 k (fun z => by
        have : lc 189 k = 189000 + k := by show 1000 * 189 + k = _; omega
        rw [this] at z
        simp only [List.mem_cons, List.not_mem_nil, or_false] at z
        omega)).1
      have g2 : C4.2.1 189 k = C3.2.1 189 k := (fc4.2.2 189 k (fun z => by
        have : lc 189 k = 189000 + k := by show 1000 * 189 + k = _; omega
        rw [this] at z
        simp only [List.mem_append, List.mem_cons, List.not_mem_nil, or_false] at z
        omega)).1
      have g3 : C3.2.1 189 k = C2.2.1 189 k := (fE.2.2 189 k (fun z => by
        have : lc 189 k = 189000 + k := by show 1000 * 189 + k = _; omega
        rw [this] at z
        simp only [List.mem_cons, List.not_mem_nil, or_false] at z
        omega)).1
      have g4 : C1.2.1 189 k = S.2.1 189 k := (fO.2.2 189 k (fun z => by
        have : lc 189 k = 189000 + k := by show 1000 * 189 + k = _; omega
        rw [this] at z
        simp only [List.mem_cons, List.not_mem_nil, or_false] at z
        omega)).1
      exact g1.trans (g2.trans (g3.trans ((congrFun (rows2 189 (by omega)).1 k).trans g4)))
    have hL1 : MRL S1 m := fun k hk => by
      rw [n191, n189]; exact hL k hk
    obtain ⟨RZ, eZ, fZ, mmZ, r42Z, b22Z, p2Z, p10Z, lnsZ⟩ := run S1 hBS1 hL1 ((n189 2).trans t3) (fun j hj => ⟨(t4 j hj).1, (n190 j).trans (t4 j hj).2.1⟩)
    obtain ⟨C5, R5, fc5, fr5, res5⟩ := lnsZ
    rcases res5 with ⟨e5, e6, f, p, hf4, hp, g1, g2, g3, g4⟩ | ⟨i5, T5, m5, wd5, e5, -⟩
    · rw [eC] at e5
      have hC54 : C5 = C4 := by
        have := Option.some.inj e5
        exact (Prod.mk.inj this).2.symm
      rw [hC54] at g1 g2
      have q5 : rvq (DVF ++ [a]) S R5 := (q1.tr (fZ.q.mono (memA rfl))).tr (fr5.q.mono (memA rfl))
      have sh5 : R5.1 = S.1 ++ [(9, 8)] := by rw [fr5.1, fZ.1, f1.1, sh4]
      have hB5 : rv_B R5 := fr5.B (fZ.B hBS1)
      have fv := q5.f
      have hM5 : MR R5 m := fun k hk => by rw [fr5.row (a := 191) rfl rfl]; exact mmZ k hk
      have b5 : ¬ R5.2.1 189 22 = 0 := by rw [fr5.at (a := 189) (k := 22) rfl]; exact b22Z
      have k42 : ∀ j, 420 ≤ j → R5.2.1 191 j = S.2.1 191 j := fun j hj => by rw [fr5.row (a := 191) rfl rfl, r42Z j hj, n191]
      have cr5 : CR (S.1, R5.2) 67 m := hR.f fv hv67 (Or.inl (allNo a1 a2 rfl)) (Or.inr (by decide)) (Or.inr (by decide)) (Or.inr (by decide))
      refine ⟨(-1 : Int32) - C4.2.1 65 10, S1, R5, m, wd, o, st, a, f, top _ ?_, ?_, ⟨⟨hB5, cr5, MRL.of hM5 b5, hk, fun w hw => ?_, fun w hw => ?_, hok⟩, ?_, hCp.c (fun j hj => k42 _ (by omega))⟩, ⟨Nat.zero_le _, ?_, ?_, fun j hj => absurd hj (Nat.not_lt_zero j)⟩, ?_, ?_, a1, a2, sh5, q5.mono (memA2 rfl)⟩
      · rw [eC, bp_s, if_pos rfl, cX12_valley_46, vl (by omega), Option.bind_some, vl (by omega), Option.bind_some]
        have i4 : rv_ck C4 9 a = some () := by
          unfold rv_ck
          rw [rv_isB_iff.mpr (show rv_is C4 a (9, rv_N 9) from ⟨by omega, by rw [fc4.1]; exact i3.2.2.1⟩), if_pos rfl]
        repeat (first | (conv => (lhs; arg 1; simp (disch := first | assumption | omega) only [tk_gI, tk_gL, tk_gR, tk_pI, tk_pL, rv_aI, rv_aL, rv_aR, rv_uI, rv_uL, rv_uB, rv_uZ, pu_ckI, pu_ckL, pu_lnI, pu_lnL, tk_rI, tk_rL, Option.bind_some, Option.map_some, rv_lt, tk_ix, i4, rc_64 hB4])); first | rw [Option.bind_some] | rw [bp_s] | rw [if_true] | rw [if_false] | rw [rv_lt_eq] | rw [if_pos (by omega)] | rw [if_neg (by omega)])
        rw [close0 _ _ hB4 rfl, bp_s, eS1]
      · rw [eZ, e6, g2, g4]
      · have := fv.rowL (a := 72) rfl (oneNo a1 a2 rfl) w
        exact this.trans (hNC w hw)
      · have := fv.rowL (a := 195) rfl (oneNo a1 a2 rfl) w
        exact this.trans (hNM w hw)
      · exact hCS.f (S' := R5) (fun x hx => funext fun k => by rcases hx with rfl | rfl | rfl <;> exact fv.row rfl (oneNo a1 a2 rfl) k) (fun k => fv.rowR (a := 80) rfl (oneNo a1 a2 rfl) k)
      · rw [fr5.at (a := 65) (k := 1) rfl, fZ.at (a := 65) (k := 1) rfl, eS1, rv_sI_eq]
      · rw [fr5.at (a := 189) (k := 2) rfl]; exact p2Z
      · rw [fr5.at (a := 64) (k := 11) rfl, fZ.at (a := 64) (k := 11) rfl, eS1, rv_sI_a _ _ _ (by decide), rv_sI_eq]; exact g1
      · exact g3
    · rw [eC] at e5
      have := Option.some.inj e5
      exact absurd (Prod.mk.inj this).1 (by decide)
  · -- a valley
    have hC4 : CSn C4 87 0 [] := by
      have n4 : ∀ k, C4.2.1 99 k = C3.2.1 99 k := fun k => fc4.row (a := 99) rfl (oneNo a1 a2 rfl) k
      exact ⟨(n4 4).trans s4, (n4 5).trans s5, fun j t h => (by cases h), Nat.zero_le _, fun t h => (by cases h)⟩
    obtain ⟨C5, e5, fC5, eq5, cs5⟩ := k_copy (n := n) (by omega) hB4 hv67 hv (by decide) hC4
    have hB5 := fC5.B hB4
    have fC5' : rvf D67 C4 C5 := fC5.f (by decide)
    obtain ⟨S1, eS1⟩ : ∃ S1, S1 = rv_sI (rv_sI C5 64 11 (nI 0)) 65 1 (nI 0) := ⟨_, rfl⟩
    have f1 : rvf [64011, 65001] C5 S1 := by
      rw [eS1]
      exact ((rvf.sI C5 64 11 _).mono rfl).tr ((rvf.sI _ 65 1 _).mono rfl)
    have hBS1 := f1.B hB5
    have q1 : rvq (DVL ++ [a]) S S1 := ((q4.mono (memA2 rfl)).tr (fC5'.q.mono (memA rfl))).tr (f1.q.mono (memA rfl))
    have n190 : ∀ k, S1.2.1 190 k = S.2.1 190 k := fun k => (f1.row (a := 190) rfl rfl k).trans ((fC5'.row (a := 190) rfl rfl k).trans ((fc4.row (a := 190) rfl (oneNo a1 a2 rfl) k).trans ((fE.row (a := 190) rfl rfl k).trans ((congrFun (rows2 190 (by omega)).1 k).trans (fO.row (a := 190) rfl rfl k)))))
    have n191 : S1.2.1 191 = S.2.1 191 := funext fun k => (f1.row (a := 191) rfl rfl k).trans ((fC5'.row (a := 191) rfl rfl k).trans ((fc4.row (a := 191) rfl (oneNo a1 a2 rfl) k).trans ((fE.row (a := 191) rfl rfl k).trans ((congrFun (rows2 191 (by omega)).1 k).trans (fO.row (a := 191) rfl rfl k)))))
    have n189 : ∀ k, S1.2.1 189 k = S.2.1 189 k := fun k => by
      have g1 : S1.2.1 189 k = C5.2.1 189 k := (f1.2.2 189 k (fun z => by
        have : lc 189 k = 189000 + k := by show 1000 * 189 + k = _; omega
        rw [this] at z
        simp only [List.mem_cons, List.not_mem_nil, or_false] at z
        omega)).1
      have g1' : C5.2.1 189 k = C4.2.1 189 k := fC5.I (by omega) k
      have g2 : C4.2.1 189 k = C3.2.1 189 k := (fc4.2.2 189 k (fun z => by
        have : lc 189 k = 189000 + k := by show 1000 * 189 + k = _; omega
        rw [this] at z
        simp only [List.mem_append, List.mem_cons, List.not_mem_nil, or_false] at z
        omega)).1
      have g3 : C3.2.1 189 k = C2.2.1 189 k := (fE.2.2 189 k (fun z => by
        have : lc 189 k = 189000 + k := by show 1000 * 189 + k = _; omega
        rw [this] at z
        simp only [List.mem_cons, List.not_mem_nil, or_false] at z
        omega)).1
      have g4 : C1.2.1 189 k = S.2.1 189 k := (fO.2.2 189 k (fun z => by
        have : lc 189 k = 189000 + k := by show 1000 * 189 + k = _; omega
        rw [this] at z
        simp only [List.mem_cons, List.not_mem_nil, or_false] at z
        omega)).1
      exact g1.trans (g1'.trans (g2.trans (g3.trans ((congrFun (rows2 189 (by omega)).1 k).trans g4))))
    have hL1 : MRL S1 m := fun k hk => by
      rw [n191, n189]; exact hL k hk
    obtain ⟨RZ, eZ, fZ, mmZ, r42Z, b22Z, p2Z, p10Z, lnsZ⟩ := run S1 hBS1 hL1 ((n189 2).trans t3) (fun j hj => ⟨(t4 j hj).1, (n190 j).trans (t4 j hj).2.1⟩)
    obtain ⟨C6, R6, fc6, fr6, res6⟩ := lnsZ
    rcases res6 with ⟨e6, -⟩ | ⟨i6, T6, m6, wd6, e6, e7, h500, hl6, hV6⟩
    · rw [eC] at e6
      have := Option.some.inj e6
      exact absurd (Prod.mk.inj this).1 (by decide)
    · rw [eC] at e6
      have hC64 : C6 = C4 := by
        have := Option.some.inj e6
        exact (Prod.mk.inj this).2.symm
      rw [hC64] at hl6 hV6
      obtain ⟨d1, d2, d3, d4, d5⟩ := hV6.2.2
      obtain ⟨hk6, h16, h66, hz6, hw6⟩ := id d5
      have hB6 : rv_B R6 := fr6.B (fZ.B hBS1)
      obtain ⟨S', e8, f8, m8, z420', n8⟩ := m_vend (n := n) hn hB6 d3 (nI i6)
      have e0' : ∀ k, k ≠ 6 → u1 m6 6 (m6 0) k = m6 k := fun k hk => u1_ne _ _ hk
      have eW : vW (u1 m6 6 (m6 0)) = vW m6 := e0' 0 (by decide)
      have e66 : u1 m6 6 (m6 0) 6 = m6 0 := u1_eq _ _ _
      obtain ⟨hp6, hc6, hd6⟩ := id hk6
      have hk7 : okm (u1 m6 6 (m6 0)) := by
        refine ⟨hp6.c8 (e0' 0 (by decide)) (fun k h1 h2 => e0' k (by omega)), hc6.c (e0' 0 (by decide)) (e0' 1 (by decide)) (e0' 3 (by decide)) (fun k h1 h2 => e0' k (by omega)), ?_⟩
        obtain ⟨y1, y2, y3, y4, y5, y6, y7⟩ := hd6
        refine ⟨y1, y2, y3, y4, by rw [e66]; exact h16, by rw [e66, eW]; exact Nat.le_refl _, fun k hk => ?_⟩
        have g : ∀ i, db (u1 m6 6 (m6 0)) k i = db m6 k i := fun i => e0' _ (by omega)
        rw [g, g, g, g, eW]
        exact y7 k hk
      have crC : CR C4 87 (u1 m6 6 (m6 0)) := by
        obtain ⟨x1, x2, x3⟩ := d1
        exact ⟨x1.c8 hp6 (e0' 0 (by decide)) (fun k h1 h2 => e0' k (by omega)), x2.c hc6.1 (e0' 1 (by decide)) (e0' 3 (by decide)) (fun k h1 h2 => e0' k (by omega)), x3.c2 (e0' 2 (by decide)) (e0' 4 (by decide)) (e0' 5 (by decide)) (fun k hk => e0' k (by omega))⟩
      have crS := eq5.R crC hk7
      have ncS : NC C5 67 (u1 m6 6 (m6 0)) wd6 := eq5.N (fun w hw => by
        rw [eW] at hw
        rw [e66, if_pos hw]; exact d2 w hw) hk7
      -- from C5 to S'
      have fRZ : rvf (DBg ++ [189023, 192]) S1 RZ := fZ
      have ff : rvf [64011, 65001, 189000, 189002, 189003, 189004, 189005, 189006, 189007, 189008, 189009, 189010, 189011, 189012, 189013, 189022, 189023, 191, 192, 195, 196] C5 S' := ((f1.mono rfl).tr (fZ.mono rfl)).tr ((fr6.mono rfl).tr (f8.mono rfl))
      have hBS' := ff.B hB5
      have q8 : rvq (DVL ++ [a]) S S' := ((q1.tr (fZ.q.mono (memA rfl))).tr (fr6.q.mono (memA rfl))).tr (f8.q.mono (memA rfl))
      have sh8 : S'.1 = S.1 ++ [(9, 8)] := by rw [f8.1, fr6.1, fZ.1, f1.1, fC5.1, sh4]
      have b8 : ¬ S'.2.1 189 22 = 0 := by rw [f8.at (a := 189) (k := 22) rfl, fr6.at (a := 189) (k := 22) rfl]; exact b22Z
      have l5 : C5.2.1 a 2 = nI i6 := (fC5.I (by omega) 2).trans hl6
      refine ⟨nI i6, S1, S', u1 m6 6 (m6 0), wd6, 0, [], a, 0, top _ ?_, ?_, ⟨⟨hBS', crS.f ff hv67 (Or.inl rfl) (Or.inr (by decide)) (Or.inr (by decide)) (Or.inr (by decide)), MRL.of m8 b8, hk7, fun w hw => ?_, fun w hw => ?_, fun w hw => ?_⟩, ?_, Or.inl ⟨rfl, z420'⟩⟩, ⟨Nat.zero_le _, ?_, ?_, fun j hj => absurd hj (Nat.not_lt_zero j)⟩, ?_, ?_, a1, a2, sh8, q8⟩
      · rw [eC, bp_s, if_neg (by decide), gv hB4 (r641 hB4) (by decide), Option.bind_some, gv hB4 (r642 hB4) (by decide), Option.bind_some, rc_67 hB4, Option.bind_some, e5, Option.bind_some, cX12_valley_46]
        have c5l : C5.1.length = S.1.length + 1 := by rw [fC5.1]; exact c4l
        rw [vl (by omega), Option.bind_some, vl (by omega), Option.bind_some]
        have i5 : rv_ck C5 9 a = some () := by
          unfold rv_ck
          rw [rv_isB_iff.mpr (show rv_is C5 a (9, rv_N 9) from ⟨by omega, by rw [fC5.1, fc4.1]; exact i3.2.2.1⟩), if_pos rfl]
        repeat (first | (conv => (lhs; arg 1; simp (disch := first | assumption | omega) only [tk_gI, tk_gL, tk_gR, tk_pI, tk_pL, rv_aI, rv_aL, rv_aR, rv_uI, rv_uL, rv_uB, rv_uZ, pu_ckI, pu_ckL, pu_lnI, pu_lnL, tk_rI, tk_rL, Option.bind_some, Option.map_some, rv_lt, tk_ix, i5, l5, rc_64 hB5])); first | rw [Option.bind_some] | rw [bp_s] | rw [if_true] | rw [if_false] | rw [rv_lt_eq] | rw [if_pos (by omega)] | rw [if_neg (by omega)])
        rw [close1 _ _ hB5 (by decide), bp_s, eS1]
      · rw [eZ, e7, e8]
      · have := ff.rowL (a := 72) rfl rfl w
        exact this.trans (ncS w hw)
      · rw [e66] at hw
        have h16' : m6 0 ≤ 16 := h16
        rw [n8 w (by omega)]
        exact d4 w hw
      · rw [e66] at hw
        exact hw6 w hw
      · exact cs5.f (S' := S') (fun x hx => funext fun k => by rcases hx with rfl | rfl | rfl <;> exact ff.row rfl rfl k) (fun k => ff.rowR (a := 80) rfl rfl k)
      · rw [f8.at (a := 65) (k := 1) rfl, fr6.at (a := 65) (k := 1) rfl, fZ.at (a := 65) (k := 1) rfl, eS1, rv_sI_eq]
      · rw [f8.at (a := 189) (k := 2) rfl, fr6.at (a := 189) (k := 2) rfl]; exact p2Z
      · rw [f8.at (a := 64) (k := 11) rfl, fr6.at (a := 64) (k := 11) rfl, fZ.at (a := 64) (k := 11) rfl, eS1, rv_sI_a _ _ _ (by decide), rv_sI_eq]
      · rw [f8.at (a := 189) (k := 10) rfl]
        exact hV6.1.2.2.2.2.2.2.2.2
end
