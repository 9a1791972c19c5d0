/-! VALLEY TEXTS: coins read -/
section
variable {n : Nat} {S C R : rvS} {b : Nat → Nat} {L M a : Nat} {T : Tk} {m mc : Nat → Nat} {wd : Nat → List Nat} {f0 f1 f2 : Bool}
theorem k_seesW (hn : 1000 ≤ n) (hB : rv_B C) (ha : isVT C a) (hC : KC C T) (hT : okT T) {N : Nat} (h0 : C.2.1 88 0 = nI N) (hN : N ≤ 24) (hw : ∀ w, w < N → C.2.2.1 92 w = lN (c32 (wd w))) (ho : ∀ w, w < N → okL (wd w)) : (iw T 22 = false → ∀ C', fnX8_fail n C 65 (nI 1) = some (0, C') → fnX10_seesWho n C a = some (0, C')) ∧ (iw T 22 = true → (∀ w, fdF wd T.2.2.2.2 N 0 = some w → fnX10_seesWho n C a = some (1, rv_sI C a 4 (nI w))) ∧ (fdF wd T.2.2.2.2 N 0 = none → ∀ C', fnX8_fail n (rv_sI C a 4 iM) 65 (nI 3) = some (0, C') → fnX10_seesWho n C a = some (0, C'))) := by
  have ck := ha.ck
  have r0 := ha.2.2.2.1
  have r1 := ha.2.2.2.2
  have c65 := rc_65 hB
  have hv : vb 87 := Or.inr (Or.inl rfl)
  have hVS := VS_of hB hv
  have c88 : rv_ck C 0 88 = some () := rc_88 hB
  have kw := k_isWord (n := n) hB hC hT (w := 22) (by decide)
  refine ⟨fun c C' e => ?_, fun c => ?_⟩
  · rw [c] at kw
    rw [fnX10_seesWho]
    repeat (first | (conv => (lhs; arg 1; simp (disch := first | assumption | omega) only [tk_gI, tk_gL, tk_gR, tk_pI, tk_pL, rv_aI, rv_aL, rv_aR, rv_uI, rv_uL, rv_uB, rv_uZ, pu_ckI, pu_ckL, pu_lnI, pu_lnL, tk_rI, tk_rL, Option.bind_some, Option.map_some, rv_lt, tk_ix, ck, r0, c65, kw])); first | rw [Option.bind_some] | rw [bp_s] | rw [if_true] | rw [if_false] | rw [rv_lt_eq] | rw [if_pos (by omega)] | rw [if_neg (by omega)])
    rw [if_pos (show bI false = 0 from rfl)]
    repeat (first | (conv => (lhs; arg 1; simp (disch := first | assumption | omega) only [tk_gI, tk_gL, tk_gR, tk_pI, tk_pL, rv_aI, rv_aL, rv_aR, rv_uI, rv_uL, rv_uB, rv_uZ, pu_ckI, pu_ckL, pu_lnI, pu_lnL, tk_rI, tk_rL, Option.bind_some, Option.map_some, rv_lt, tk_ix, ck, r0, c65])); first | rw [Option.bind_some] | rw [bp_s] | rw [if_true] | rw [if_false] | rw [rv_lt_eq] | rw [if_pos (by omega)] | rw [if_neg (by omega)])
    rw [z1, e, bp_s]
    rfl
  · obtain ⟨c2, c3⟩ := iw_2 c
    have hl := hT.2.2.2.2.2 c2
    have e7 := (hC.2.2.2.2 c2).1
    rw [c] at kw
    have kf : fnX1_find n C 88 _ = _ := k_find (n := n) (C := C) (wd := wd) (by omega) hB hv.f (N := N) (N1 := N) hN (Nat.le_refl _) h0 (fun w hw2 => by rw [if_pos hw2]; exact hw w hw2) ho hl
    have gcl : ∀ X x, fdF wd T.2.2.2.2 N 0 = x → ((rv_gI (rv_sI C a 4 (fI x)) 9 a 4).bind fun x24_ => if x24_ = (-1 : Int32) then ((rv_gR (rv_sI C a 4 (fI x)) 9 a 0).bind fun a27_ => (rv_ck (rv_sI C a 4 (fI x)) 7 a27_).bind fun u29_ => rv_bp (fnX8_fail n (rv_sI C a 4 (fI x)) a27_ (3 : Int32)) fun x32_ S33_ => if x32_ = 0 then some ((0 : Int32), S33_) else some ((1 : Int32), S33_)) else some ((1 : Int32), rv_sI C a 4 (fI x))) = X → fnX10_seesWho n C a = X := fun X x hx hX => by
      rw [fnX10_seesWho]
      repeat (first | (conv => (lhs; arg 1; simp (disch := first | assumption | omega) only [tk_gI, tk_gL, tk_gR, tk_pI, tk_pL, rv_aI, rv_aL, rv_aR, rv_uI, rv_uL, rv_uB, rv_uZ, pu_ckI, pu_ckL, pu_lnI, pu_lnL, tk_rI, tk_rL, Option.bind_some, Option.map_some, rv_lt, tk_ix, ck, r0, c65, kw])); first | rw [Option.bind_some] | rw [bp_s] | rw [if_true] | rw [if_false] | rw [rv_lt_eq] | rw [if_pos (by omega)] | rw [if_neg (by omega)])
      rw [if_neg (by decide)]
      repeat (first | (conv => (lhs; arg 1; simp (disch := first | assumption | omega) only [tk_gI, tk_gL, tk_gR, tk_pI, tk_pL, rv_aI, rv_aL, rv_aR, rv_uI, rv_uL, rv_uB, rv_uZ, pu_ckI, pu_ckL, pu_lnI, pu_lnL, tk_rI, tk_rL, Option.bind_some, Option.map_some, rv_lt, tk_ix, ck, r0, r1, c65, hVS, e7])); first | rw [Option.bind_some] | rw [bp_s] | rw [if_true] | rw [if_false] | rw [rv_lt_eq] | rw [if_pos (by omega)] | rw [if_neg (by omega)])
      rw [c88, Option.bind_some, kf, Option.bind_some, hx, tk_pI, ck, Option.map_some, Option.bind_some]
      exact hX
    refine ⟨fun w hx => gcl _ (some w) hx ?_, fun hx C' e => gcl _ none hx ?_⟩
    · obtain ⟨-, w2, -⟩ := fdF_lt _ _ _ hx
      have s4 : (rv_sI C a 4 (fI (some w))).2.1 a 4 = nI w := rv_sI_eq _ _ _ _
      have nM : ¬ nI w = -1 := fun z => by
        have := z_eqM (a := w) (by omega)
        rw [← this]
        exact z
      repeat (first | (conv => (lhs; arg 1; simp (disch := first | assumption | omega) only [tk_gI, tk_gL, tk_gR, tk_pI, tk_pL, rv_aI, rv_aL, rv_aR, rv_uI, rv_uL, rv_uB, rv_uZ, pu_ckI, pu_ckL, pu_lnI, pu_lnL, tk_rI, tk_rL, Option.bind_some, Option.map_some, rv_lt, tk_ix, ck, s4])); first | rw [Option.bind_some] | rw [bp_s] | rw [if_true] | rw [if_false] | rw [rv_lt_eq] | rw [if_pos (by omega)] | rw [if_neg (by omega)])
      rfl
    · have s4 : (rv_sI C a 4 (fI none)).2.1 a 4 = iM := rv_sI_eq _ _ _ _
      have e : fnX8_fail n (rv_sI C a 4 (fI none)) 65 (nI 3) = some (0, C') := e
      repeat (first | (conv => (lhs; arg 1; simp (disch := first | assumption | omega) only [tk_gI, tk_gL, tk_gR, tk_pI, tk_pL, rv_aI, rv_aL, rv_aR, rv_uI, rv_uL, rv_uB, rv_uZ, pu_ckI, pu_ckL, pu_lnI, pu_lnL, tk_rI, tk_rL, Option.bind_some, Option.map_some, rv_lt, tk_ix, ck, s4])); first | rw [Option.bind_some] | rw [bp_s] | rw [if_true] | rw [if_false] | rw [rv_lt_eq] | rw [if_pos (by omega)] | rw [if_neg (by omega)])
      rw [if_pos (show iM = -1 from rfl)]
      repeat (first | (conv => (lhs; arg 1; simp (disch := first | assumption | omega) only [tk_gI, tk_gL, tk_gR, tk_pI, tk_pL, rv_aI, rv_aL, rv_aR, rv_uI, rv_uL, rv_uB, rv_uZ, pu_ckI, pu_ckL, pu_lnI, pu_lnL, tk_rI, tk_rL, Option.bind_some, Option.map_some, rv_lt, tk_ix, ck, r0, c65])); first | rw [Option.bind_some] | rw [bp_s] | rw [if_true] | rw [if_false] | rw [rv_lt_eq] | rw [if_pos (by omega)] | rw [if_neg (by omega)])
      rw [z3, e, bp_s, if_pos rfl]
/-- while the names of coin c are read -/
def LCN (C R : rvS) (mc : Nat → Nat) (wd : Nat → List Nat) (c : Nat) : Prop := CR C 87 (u1 mc 1 (c + 1)) ∧ (∀ w, w < vW mc → C.2.2.1 92 w = lN (c32 (wd w))) ∧ (∀ k, k < 420 → R.2.1 192 k = nI (mc k)) ∧ (∀ w, w < vW mc → R.2.2.1 196 w = lN (c27 (wd w))) ∧ okv (u1 mc 1 (c + 1)) wd ∧ mc 1 = c ∧ c < 40
theorem LCN.D {c : Nat} (h : LCN C R mc wd c) : DRF C (rv_sI R 192 1 (nI (c + 1))) (u1 mc 1 (c + 1)) wd := by
  obtain ⟨h1, h2, h3, h4, h5, h6, h7⟩ := h
  exact ⟨h1, fun w hw => h2 w (by rw [show vW (u1 mc 1 (c + 1)) = vW mc from u1_ne _ _ (by decide)] at hw; exact hw), rd_u h3 1 (c + 1), fun w hw => h4 w (by rw [show vW (u1 mc 1 (c + 1)) = vW mc from u1_ne _ _ (by decide)] at hw; exact hw), h5⟩
theorem LCN.f {c : Nat} {C' R' : rvS} {D : List Nat} (h : LCN C R mc wd c) (ha : isVT C a) (f : rvf (DTl ++ [a]) C C') (g : rvf D R R') (hd : D.elem 192 = false) (hd2 : D.elem 196 = false) : LCN C' R' mc wd c := by
  have d := (h.D).fc ha f
  obtain ⟨h1, h2, h3, h4, h5, h6, h7⟩ := h
  refine ⟨d.1, fun w hw => d.2.1 w (by rw [show vW (u1 mc 1 (c + 1)) = vW mc from u1_ne _ _ (by decide)]; exact hw), fun k hk => by rw [g.row (a := 192) rfl hd]; exact h3 k hk, fun w hw => by rw [g.rowL (a := 196) rfl hd2]; exact h4 w hw, h5, h6, h7⟩
theorem RES.pre {C2 R2 : rvS} {p0 : Nat} {x y x2 y2 : Option (Int32 × rvS)} {K : rvS → Option (Int32 × rvS)} (h : RES C2 R2 a b L M p0 x2 y2 K) (f : rvf (DVc ++ [a]) C C2) (g : rvf DRv R R2) (ex : x = x2) (ey : y = y2) (e2 : C2.2.1 a 2 = C.2.1 a 2) : RES C R a b L M p0 x y K := by
  obtain ⟨C', R', f', g', h'⟩ := h
  refine ⟨C', R', f.tr f', g.tr g', ?_⟩
  rw [ex, ey]
  rcases h' with h' | ⟨h1, h2, T, m, wd, f0, f1, f2, h3, h4, h5, h6⟩
  · exact Or.inl h'
  · exact Or.inr ⟨h1, h2, T, m, wd, f0, f1, f2, h3, h4, h5.trans e2, h6⟩
/-- a name more on the rim of the last coin -/
def scm (mc : Nat → Nat) (c i w : Nat) : Nat → Nat := u1 (u1 mc (135 + 6 * c + i) w) (134 + 6 * c) (i + 1)
theorem scm_off {c i w k : Nat} (h1 : k ≠ 135 + 6 * c + i) (h2 : k ≠ 134 + 6 * c) : scm mc c i w k = mc k := by
  unfold scm
  rw [u1_ne _ _ h2, u1_ne _ _ h1]
theorem scm_rl {c i w : Nat} (hi : mc (134 + 6 * c) = i) (h3 : i < 3) : rl (scm mc c i w) c = rl mc c ++ [w] ∧ mn (scm mc c i w) c = i + 1 := by
  have e1 : mn (scm mc c i w) c = i + 1 := u1_eq _ _ _
  refine ⟨?_, e1⟩
  have ei : rm (scm mc c i w) c i = w := by
    show scm mc c i w (135 + 6 * c + i) = w
    unfold scm
    rw [u1_ne _ _ (by omega), u1_eq]
  have ej : ∀ j, j ≠ i → rm (scm mc c i w) c j = rm mc c j := fun j hj => scm_off (by omega) (by omega)
  have em : mn mc c = i := hi
  unfold rl
  rw [e1, em]
  have : i = 0 ∨ i = 1 ∨ i = 2 := by omega
  rcases this with rfl | rfl | rfl
  · rw [ei]; rfl
  · rw [ei, ej 0 (by decide)]; rfl
  · rw [ei, ej 0 (by decide), ej 1 (by decide)]; rfl
theorem rl_u (c k v : Nat) (h1 : k < 132) : rl (u1 mc k v) c = rl mc c := by
  have e : ∀ j, 132 ≤ j → u1 mc k v j = mc j := fun j hj => u1_ne _ _ (by omega)
  unfold rl
  rw [show mn (u1 mc k v) c = mn mc c from e _ (by omega), show rm (u1 mc k v) c 0 = rm mc c 0 from e _ (by omega), show rm (u1 mc k v) c 1 = rm mc c 1 from e _ (by omega), show rm (u1 mc k v) c 2 = rm mc c 2 from e _ (by omega)]
theorem rl_cong {m m' : Nat → Nat} {c : Nat} (h : ∀ k, 134 + 6 * c ≤ k → k < 138 + 6 * c → m' k = m k) : rl m' c = rl m c := by
  unfold rl
  rw [show mn m' c = mn m c from h _ (by omega) (by omega), show rm m' c 0 = rm m c 0 from h _ (by omega) (by omega), show rm m' c 1 = rm m c 1 from h _ (by omega) (by omega), show rm m' c 2 = rm m c 2 from h _ (by omega) (by omega)]
theorem LCN.scratch (hB : rv_B C) {c i w : Nat} (h : LCN C R mc wd c) (hi : mc (134 + 6 * c) = i) (hN : i < mc 3) (hw : w < vW mc) : fnX6_scratch n C 95 (nI c) (nI i) (nI w) = some (rv_sI C 98 c (nI (rb (rl mc c ++ [w])))) ∧ LCN (rv_sI C 98 c (nI (rb (rl mc c ++ [w])))) (rv_sI (rv_sI R 192 (135 + 6 * c + i) (nI w)) 192 (134 + 6 * c) (nI (i + 1))) (scm mc c i w) wd c := by
  obtain ⟨⟨hF, hP, hD⟩, d2, d3, d4, d5, d6, d7⟩ := h
  obtain ⟨hp, hc, hd⟩ := id d5.1
  have hN3 : mc 3 ≤ 3 := hc.2.1
  have eW : vW (u1 mc 1 (c + 1)) = vW mc := u1_ne _ _ (by decide)
  have eC : vC (u1 mc 1 (c + 1)) = c + 1 := u1_eq _ _ _
  have h24 : vW mc ≤ 24 := by have := hp.1; rw [eW] at this; exact this
  have off : ∀ k, k ≠ 135 + 6 * c + i → k ≠ 134 + 6 * c → scm mc c i w k = mc k := fun k h1 h2 => scm_off h1 h2
  have off2 : ∀ k, k ≠ 135 + 6 * c + i → k ≠ 134 + 6 * c → u1 (scm mc c i w) 1 (c + 1) k = u1 mc 1 (c + 1) k := fun k h1 h2 => by
    by_cases e : k = 1
    · rw [e, u1_eq, u1_eq]
    · rw [u1_ne _ _ e, u1_ne _ _ e, off k h1 h2]
  have hrl : rl (u1 mc 1 (c + 1)) c = rl mc c := rl_u c 1 _ (by decide)
  have hrl2 : rl (u1 (scm mc c i w) 1 (c + 1)) c = rl mc c ++ [w] := by rw [rl_u c 1 _ (by decide), (scm_rl hi (by omega)).1]
  have hlen : (rl mc c).length = i := by
    have : mn mc c = i := hi
    rw [rl_len (by omega), this]
  have hok := hc.l (c := c) (by rw [eC]; omega)
  rw [hrl] at hok
  have hlt := hok.lt hp
  have hlt2 : rb (rl mc c) < 32 ^ i := by rw [← hlen]; exact rb_lt (fun x hx => by have := hok.2 x hx; rw [eW] at this; omega)
  refine ⟨?_, ⟨⟨?_, ?_, ?_⟩, ?_, ?_, ?_, ?_, ?_, d7⟩⟩
  · have hS := PS_of hB (p := 95) (Or.inr (Or.inl rfl))
    have hh := k_hasC (n := n) hS hP hc (c := c) (by rw [eC]; omega)
    have hh : fnX6_has n C 95 (nI c) = some (nI 1) := hh
    have b5 : C.2.1 98 c = nI (rb (rl (u1 mc 1 (c + 1)) c)) := hP.2.2.2.2 c (by rw [eC]; omega)
    rw [hrl] at b5
    have c95 : rv_ck C 5 95 = some () := hS.1
    have r98 : C.2.2.2 95 4 = some 98 := hS.2.2.2.1
    have l98 : rv_ln C 0 98 = some 40 := hS.2.2.2.2.2.2
    have sh' : (nI w + (1 : Int32)) <<< (((5 : Int32) * nI i) &&& 31) = nI ((w + 1) * 2 ^ (5 * i)) := by rw [z1, nI_add, z5, z_mul, z31, n_ushl _ (by omega)]
    have hor : rb (rl mc c) ||| (w + 1) * 2 ^ (5 * i) = rb (rl mc c ++ [w]) := by
      have e32 : 32 ^ i = 2 ^ (5 * i) := (Nat.pow_mul 2 5 i).symm
      rw [rb_app, hlen, e32, Nat.or_comm, Nat.mul_comm, ← Nat.two_pow_add_eq_or_of_lt (by rw [← e32]; exact hlt2) (w + 1)]
      omega
    rw [fnX6_scratch]
    repeat (first | (conv => (lhs; arg 1; simp (disch := first | assumption | omega) only [tk_gI, tk_gL, tk_gR, tk_pI, tk_pL, rv_aI, rv_aL, rv_aR, rv_uI, rv_uL, rv_uB, rv_uZ, pu_ckI, pu_ckL, pu_lnI, pu_lnL, tk_rI, tk_rL, Option.bind_some, Option.map_some, rv_lt, tk_ix, c95, hh])); first | rw [Option.bind_some] | rw [bp_s] | rw [if_true] | rw [if_false] | rw [rv_lt_eq] | rw [if_pos (by omega)] | rw [if_neg (by omega)])
    rw [if_neg (by decide)]
    repeat (first | (conv => (lhs; arg 1; simp (disch := first | assumption | omega) only [tk_gI, tk_gL, tk_gR, tk_pI, tk_pL, rv_aI, rv_aL, rv_aR, rv_uI, rv_uL, rv_uB, rv_uZ, pu_ckI, pu_ckL, pu_lnI, pu_lnL, tk_rI, tk_rL, Option.bind_some, Option.map_some, rv_lt, tk_ix, c95, r98, l98, b5, sh', fa_or, hor])); first | rw [Option.bind_some] | rw [bp_s] | rw [if_true] | rw [if_false] | rw [rv_lt_eq] | rw [if_pos (by omega)] | rw [if_neg (by omega)])
  · refine FR.c8 (FR.wx hF (Or.inr (by decide))) hp (off2 0 (by omega) (by omega)) (fun k h1 h2 => off2 k (by omega) (by omega))
  · obtain ⟨b1, b2, b3, b4, b5⟩ := hP
    have eC2 : vC (u1 (scm mc c i w) 1 (c + 1)) = vC (u1 mc 1 (c + 1)) := off2 1 (by omega) (by omega)
    refine ⟨?_, ?_, fun x hx => ?_, fun x hx => ?_, fun x hx => ?_⟩
    · rw [rv_sI_a _ _ _ (by decide), eC2]; exact b1
    · rw [rv_sI_a _ _ _ (by decide), show vN (u1 (scm mc c i w) 1 (c + 1)) = vN (u1 mc 1 (c + 1)) from off2 3 (by omega) (by omega)]; exact b2
    · rw [eC2] at hx
      rw [rv_sI_a _ _ _ (by decide), show va (u1 (scm mc c i w) 1 (c + 1)) x = va (u1 mc 1 (c + 1)) x from off2 _ (by omega) (by omega)]; exact b3 x hx
    · rw [eC2] at hx
      rw [rv_sI_a _ _ _ (by decide), show ow (u1 (scm mc c i w) 1 (c + 1)) x = ow (u1 mc 1 (c + 1)) x from off2 _ (by omega) (by omega)]; exact b4 x hx
    · rw [eC2] at hx
      by_cases cx : x = c
      · rw [cx, hrl2]; exact rv_sI_eq _ _ _ _
      · rw [rv_sI_k _ _ cx, rl_cong (m := u1 mc 1 (c + 1)) (fun k h1 h2 => off2 k (by omega) (by omega))]; exact b5 x hx
  · refine DR.c2 (DR.wx hD ⟨by decide, Or.inl (by decide)⟩) (off2 2 (by omega) (by omega)) (off2 4 (by omega) (by omega)) (off2 5 (by omega) (by omega)) (fun k hk => off2 k (by omega) (by omega))
  · rw [show vW (scm mc c i w) = vW mc from off 0 (by omega) (by omega)]; exact d2
  · exact rd_u (rd_u d3 _ _) _ _
  · rw [show vW (scm mc c i w) = vW mc from off 0 (by omega) (by omega)]; exact d4
  · refine d5.same ⟨hp.c8 (off2 0 (by omega) (by omega)) (fun k h1 h2 => off2 k (by omega) (by omega)), ?_, hd.c2 hp.1 (fun k hk => off2 k (by omega) (by omega)) (fun k hk => off2 k (by omega) (by omega))⟩ (off2 0 (by omega) (by omega)) (off2 6 (by omega) (by omega)) (fun k h1 h2 => off2 k (by omega) (by omega))
    obtain ⟨q1, q2, q3⟩ := hc
    have eW2 : vW (u1 (scm mc c i w) 1 (c + 1)) = vW (u1 mc 1 (c + 1)) := off2 0 (by omega) (by omega)
    have eC2 : vC (u1 (scm mc c i w) 1 (c + 1)) = vC (u1 mc 1 (c + 1)) := off2 1 (by omega) (by omega)
    have eN2 : vN (u1 (scm mc c i w) 1 (c + 1)) = vN (u1 mc 1 (c + 1)) := off2 3 (by omega) (by omega)
    refine ⟨by rw [eC2]; exact q1, by rw [eN2]; exact q2, fun x hx => ?_⟩
    rw [eC2] at hx
    obtain ⟨g1, g2, g3, g4, g5⟩ := q3 x hx
    have rv : va (u1 (scm mc c i w) 1 (c + 1)) x = va (u1 mc 1 (c + 1)) x := off2 _ (by omega) (by omega)
    have ro : ow (u1 (scm mc c i w) 1 (c + 1)) x = ow (u1 mc 1 (c + 1)) x := off2 _ (by omega) (by omega)
    refine ⟨by rw [rv]; exact g1, by rw [rv]; exact g2, by rw [ro, eW2]; exact g3, ?_, fun j hj => ?_⟩
    · rw [eN2]
      by_cases cx : x = c
      · rw [cx, show mn (u1 (scm mc c i w) 1 (c + 1)) c = i + 1 from (u1_ne _ _ (by omega)).trans (scm_rl hi (by omega)).2]
        show i + 1 ≤ u1 mc 1 (c + 1) 3
        rw [u1_ne _ _ (by decide)]
        omega
      · rw [show mn (u1 (scm mc c i w) 1 (c + 1)) x = mn (u1 mc 1 (c + 1)) x from off2 _ (by omega) (by omega)]; exact g4
    · rw [eW2]
      by_cases cx : x = c
      · rw [cx, show mn (u1 (scm mc c i w) 1 (c + 1)) c = i + 1 from (u1_ne _ _ (by omega)).trans (scm_rl hi (by omega)).2] at hj
        rw [cx]
        by_cases cj : j = i
        · rw [cj, show rm (u1 (scm mc c i w) 1 (c + 1)) c i = w by
            show u1 (scm mc c i w) 1 (c + 1) (135 + 6 * c + i) = w
            rw [u1_ne _ _ (by omega)]
            unfold scm
            rw [u1_ne _ _ (by omega), u1_eq], eW]
          exact hw
        · rw [show rm (u1 (scm mc c i w) 1 (c + 1)) c j = rm (u1 mc 1 (c + 1)) c j from off2 _ (by omega) (by omega)]
          have := g5 j
          rw [cx] at this
          refine this ?_
          have : mn (u1 mc 1 (c + 1)) c = i := (u1_ne _ _ (by omega)).trans hi
          rw [this]
          omega
      · rw [show mn (u1 (scm mc c i w) 1 (c + 1)) x = mn (u1 mc 1 (c + 1)) x from off2 _ (by omega) (by omega)] at hj
        have h3j : j < 3 := by omega
        rw [show rm (u1 (scm mc c i w) 1 (c + 1)) x j = rm (u1 mc 1 (c + 1)) x j from off2 _ (by omega) (by omega)]
        exact g5 j hj
  · rw [off 1 (by omega) (by omega)]; exact d6
/-- the names of the last coin -/
theorem vt_names (hn : 1000 ≤ n) {c p0 : Nat} : ∀ r i q q' (C R : rvS) (T : Tk) (mc : Nat → Nat), i + r = 4 → r < q → r < q' → KX C R b L M T → isVT C a → LCN C R mc wd c → FLG C R a f0 f1 f2 → mc (134 + 6 * c) = i → i ≤ mc 3 → (∃ p, p0 ≤ p ∧ p ≤ L ∧ T = tq_nx b L M p) → RES C R a b L M p0 (cX10_readCoin_80 n q C a (nI c) (nI i)) (cX13_readCoin_90 n q' R 189 (nI (132 + 6 * c))) (fun R' => some (1, R')) := by
  intro r
  induction r with
  | zero =>
    intro i q q' C R T mc hi _ _ _ _ h _ _ h3 _
    have : mc 3 ≤ 3 := h.2.2.2.2.1.1.2.1.2.1
    omega
  | succ r ih =>
    intro i q q' C R T mc hi hq hq' hK ha h hf hm h3 hp0
    obtain ⟨q, rfl⟩ : ∃ z, q = z + 1 := ⟨q - 1, by omega⟩
    obtain ⟨q', rfl⟩ : ∃ z, q' = z + 1 := ⟨q' - 1, by omega⟩
    obtain ⟨hB, hB2, hTC, hTR, hC, hR, hT, hL⟩ := id hK
    obtain ⟨d1, d2, d3, d4, d5, d6, d7⟩ := id h
    have ck := ha.ck
    have r0 := ha.2.2.2.1
    have r1 := ha.2.2.2.2
    have c65 := rc_65 hB
    have hv : vb 87 := Or.inr (Or.inl rfl)
    have hVS := VS_of hB hv
    have h64 := hT.2.2.1
    have hr := rkd_lt T.2.2.1
    have hN3 : mc 3 ≤ 3 := d5.1.2.1.2.1
    have r15 := rf_of hB2 (show (189, 15, 192) ∈ rv_rf0 by decide)
    have r19 := rf_of hB2 (show (189, 19, 196) ∈ rv_rf0 by decide)
    have w0 := d3 0 (by decide)
    have eW : vW (u1 mc 1 (c + 1)) = vW mc := u1_ne _ _ (by decide)
    have h16 : vW mc ≤ 16 := by have := d5.2.1; rw [eW] at this; exact this
    have ow : ∀ w, w < vW mc → okL (wd w) := fun w hw => d5.2.2.2.2 w (by rw [eW]; exact hw)
    have s0 : C.2.1 88 0 = nI (vW mc) := by rw [← eW]; exact d1.1.1
    have pre : ∀ X, (if nI T.2.2.1 = (2 : Int32) then ((rv_ck C 9 a).bind fun u7_ => rv_bp (fnX10_seesWho n C a) fun x10_ S11_ => if x10_ = 0 then some ((0 : Int32), S11_) else (rv_gR S11_ 9 a 1).bind fun a15_ => (rv_gR S11_ 8 a15_ 1).bind fun a17_ => (rv_gI S11_ 5 a17_ 1).bind fun x19_ => if nI i < x19_ then ((rv_gR S11_ 9 a 1).bind fun a22_ => (rv_gR S11_ 8 a22_ 1).bind fun a24_ => (rv_gI S11_ 9 a 4).bind fun x26_ => (rv_ck S11_ 5 a24_).bind fun u28_ => (fnX6_scratch n S11_ a24_ (nI c) (nI i) x26_).bind fun S31_ => (rv_gR S31_ 9 a 0).bind fun a34_ => (rv_ck S31_ 7 a34_).bind fun u36_ => (fnX8_next n S31_ a34_).bind fun S39_ => rv_lt (nI i + (1)) fun x42_ => cX10_readCoin_80 n q S39_ a (nI c) x42_) else cX10_readCoin_119 n S11_ a) else some ((1 : Int32), C)) = X → cX10_readCoin_80 n (q + 1) C a (nI c) (nI i) = X := fun X hX => by
      rw [cX10_readCoin_80, if_neg (by rw [z3, n_lt (by omega) (by omega)]; omega)]
      repeat (first | (conv => (lhs; arg 1; simp (disch := first | assumption | omega) only [tk_gI, tk_gL, tk_gR, tk_pI, tk_pL, rv_aI, rv_aL, rv_aR, rv_uI, rv_uL, rv_uB, rv_uZ, pu_ckI, pu_ckL, pu_lnI, pu_lnL, tk_rI, tk_rL, Option.bind_some, Option.map_some, rv_lt, tk_ix, ck, r0, c65, hC.2.2.1])); first | rw [Option.bind_some] | rw [bp_s] | rw [if_true] | rw [if_false] | rw [rv_lt_eq] | rw [if_pos (by omega)] | rw [if_neg (by omega)])
      exact hX
    have ref : ∀ X, (if nI (rkd T.2.2.1) = (2 : Int32) then ((rv_ck R 11 189).bind fun u4_ => (fnX13_isName n R 189).bind fun x7_ => if x7_ = 0 then cX13_readCoin_105 n R 189 else (rv_gR R 11 189 19).bind fun a10_ => (rv_gR R 11 189 15).bind fun a12_ => (rv_aI R 0 a12_ (0 : Int32)).bind fun x14_ => (rv_gL R 11 189 12).bind fun x16_ => (fnX13_findIn n R a10_ x14_ x16_).bind fun x19_ => if x19_ = (-1 : Int32) then cX13_readCoin_134 n R 189 else (rv_gR R 11 189 15).bind fun a22_ => (rv_aI R 0 a22_ (nI (132 + 6 * c) + (2 : Int32))).bind fun x24_ => (rv_gR R 11 189 15).bind fun a26_ => (rv_aI R 0 a26_ (3 : Int32)).bind fun x28_ => if x24_ = x28_ then cX13_readCoin_157 n R 189 else (rv_gR R 11 189 15).bind fun a31_ => (rv_gR R 11 189 15).bind fun a33_ => (rv_aI R 0 a33_ (nI (132 + 6 * c) + (2 : Int32))).bind fun x35_ => (rv_uI R a31_ ((nI (132 + 6 * c) + (3 : Int32)) + x35_) x19_).bind fun S37_ => (rv_gR S37_ 11 189 15).bind fun a39_ => rv_lt (nI (132 + 6 * c) + (2 : Int32)) fun x41_ => (rv_aI S37_ 0 a39_ x41_).bind fun x43_ => (rv_uI S37_ a39_ x41_ (x43_ + (1 : Int32))).bind fun S45_ => (rv_ck S45_ 11 189).bind fun u47_ => (fnX13_go n S45_ 189).bind fun S50_ => cX13_readCoin_90 n q' S50_ 189 (nI (132 + 6 * c))) else cX13_readCoin_200 n R 189) = X → cX13_readCoin_90 n (q' + 1) R 189 (nI (132 + 6 * c)) = X := fun X hX => by
      rw [cX13_readCoin_90]
      repeat (first | (conv => (lhs; arg 1; simp (disch := first | assumption | omega) only [tk_gI, tk_gL, tk_gR, tk_pI, tk_pL, rv_aI, rv_aL, rv_aR, rv_uI, rv_uL, rv_uB, rv_uZ, pu_ckI, pu_ckL, pu_lnI, pu_lnL, tk_rI, tk_rL, Option.bind_some, Option.map_some, rv_lt, tk_ix, rc_189 hB2, hR.2.2.1])); first | rw [Option.bind_some] | rw [bp_s] | rw [if_true] | rw [if_false] | rw [rv_lt_eq] | rw [if_pos (by omega)] | rw [if_neg (by omega)])
      exact hX
    by_cases kd : T.2.2.1 = 2
    · have i2 : nI T.2.2.1 = (2 : Int32) := by rw [kd]; rfl
      have j2 : nI (rkd T.2.2.1) = (2 : Int32) := by rw [kd]; rfl
      rw [if_pos i2, ck, Option.bind_some] at pre
      rw [if_pos j2] at ref
      obtain ⟨kA, kB⟩ := k_seesW (n := n) (wd := wd) hn hB ha hC hT s0 (by omega) d2 ow
      have mw := m_isName (n := n) (by omega) hB2 hR hT
      by_cases cw : iw T 22 = true
      · have hl := hT.2.2.2.2.2 kd
        have e12 := hR.2.2.2.2.2 kd
        have mf : fnX13_findIn n R 196 (nI (mc 0)) _ = _ := m_find (n := n) (R := R) (wd := wd) (by omega) (row := 196) (N := vW mc) (rn_196 hB2) (by omega) (by decide) (by omega) d4 ow hl
        obtain ⟨kS, kN⟩ := kB cw
        rw [cw] at mw
        cases hx : fdF wd T.2.2.2.2 (vW mc) 0 with
        | none =>
          rw [hx] at mf
          have mf : fnX13_findIn n R 196 (nI (mc 0)) _ = some (-1) := mf
          obtain ⟨C', R', e1, e2, f1', f2', g⟩ := lk_fail (n := n) (hK.fa (ks := []) (C' := C) ha 4 iM) (f := 3) (by decide) (Or.inr ⟨by omega, by omega⟩)
          have fa := FrA.of (a := a) (C := rv_sI C a 4 iM) ha f1' rfl
          refine ⟨C', R', (FrA.w ha 4 iM).v.tr fa.v, f2'.mono rfl, Or.inl ⟨pre _ ?_, ref _ ?_, g⟩⟩
          · rw [kN hx C' e1, bp_s, if_pos rfl]
          · rw [rc_189 hB2, Option.bind_some, mw, Option.bind_some, if_neg (show ¬ bI true = 0 by decide)]
            repeat (first | (conv => (lhs; arg 1; simp (disch := first | assumption | omega) only [tk_gI, tk_gL, tk_gR, tk_pI, tk_pL, rv_aI, rv_aL, rv_aR, rv_uI, rv_uL, rv_uB, rv_uZ, pu_ckI, pu_ckL, pu_lnI, pu_lnL, tk_rI, tk_rL, Option.bind_some, Option.map_some, rv_lt, tk_ix, z0, rc_189 hB2, r19, r15, rn_192 hB2, w0, e12, mf])); first | rw [Option.bind_some] | rw [bp_s] | rw [if_true] | rw [if_false] | rw [rv_lt_eq] | rw [if_pos (by omega)] | rw [if_neg (by omega)])
            rw [cX13_readCoin_134, rc_189 hB2, Option.bind_some, z3, e2, bp_s]
            rfl
        | some w =>
          obtain ⟨-, w2, -⟩ := fdF_lt _ _ _ hx
          rw [hx] at mf
          have mf : fnX13_findIn n R 196 (nI (mc 0)) _ = some (nI w) := mf
          have nM : ¬ nI w = -1 := fun z => by
            have := z_eqM (a := w) (by omega)
            rw [← this]
            exact z
          obtain ⟨C1, eC1⟩ : ∃ C1, C1 = rv_sI C a 4 (nI w) := ⟨_, rfl⟩
          have fw := FrA.w ha 4 (nI w)
          rw [← eC1] at fw
          have K1 : KX C1 R b L M T := by rw [eC1]; exact hK.fa (ks := []) (C' := C) ha 4 _
          have i1 : isVT C1 a := fw.2.1
          have h1 : LCN C1 R mc wd c := h.f ha fw.1 (rvf.rf [] R) rfl rfl
          have s14 : C1.2.1 a 4 = nI w := by rw [eC1]; exact rv_sI_eq _ _ _ _
          have ck1 := i1.ck
          have hB1 := K1.1
          have hVS1 := VS_of hB1 hv
          have c951 : rv_ck C1 5 95 = some () := rc_95 hB1
          have n95 : C1.2.1 95 1 = nI (mc 3) := h1.1.2.1.2.1.trans (congrArg nI (u1_ne _ _ (by decide)))
          have m2 : R.2.1 192 (134 + 6 * c) = nI i := by rw [d3 _ (by omega), hm]
          have m3 := d3 3 (by decide)
          have z2' : nI (132 + 6 * c) + (2 : Int32) = nI (134 + 6 * c) := by
            rw [z2, nI_add]
            exact congrArg nI (by omega)
          have z3' : nI (132 + 6 * c) + (3 : Int32) + nI i = nI (135 + 6 * c + i) := by
            rw [z3, nI_add, nI_add]
            exact congrArg nI (by omega)
          have pre2 : ∀ X, (if nI i < nI (mc 3) then ((rv_gR C1 9 a 1).bind fun a22_ => (rv_gR C1 8 a22_ 1).bind fun a24_ => (rv_gI C1 9 a 4).bind fun x26_ => (rv_ck C1 5 a24_).bind fun u28_ => (fnX6_scratch n C1 a24_ (nI c) (nI i) x26_).bind fun S31_ => (rv_gR S31_ 9 a 0).bind fun a34_ => (rv_ck S31_ 7 a34_).bind fun u36_ => (fnX8_next n S31_ a34_).bind fun S39_ => rv_lt (nI i + (1)) fun x42_ => cX10_readCoin_80 n q S39_ a (nI c) x42_) else cX10_readCoin_119 n C1 a) = X → cX10_readCoin_80 n (q + 1) C a (nI c) (nI i) = X := fun X hX => pre X (by
            rw [kS w hx, bp_s, if_neg (by decide), ← eC1]
            repeat (first | (conv => (lhs; arg 1; simp (disch := first | assumption | omega) only [tk_gI, tk_gL, tk_gR, tk_pI, tk_pL, rv_aI, rv_aL, rv_aR, rv_uI, rv_uL, rv_uB, rv_uZ, pu_ckI, pu_ckL, pu_lnI, pu_lnL, tk_rI, tk_rL, Option.bind_some, Option.map_some, rv_lt, tk_ix, ck1, i1.2.2.2.2, hVS1, c951, n95])); first | rw [Option.bind_some] | rw [bp_s] | rw [if_true] | rw [if_false] | rw [rv_lt_eq] | rw [if_pos (by omega)] | rw [if_neg (by omega)])
            exact hX)
          have ref2 : ∀ X, (if nI i = nI (mc 3) then cX13_readCoin_157 n R 189 else (rv_gR R 11 189 15).bind fun a31_ => (rv_gR R 11 189 15).bind fun a33_ => (rv_aI R 0 a33_ (nI (134 + 6 * c))).bind fun x35_ => (rv_uI R a31_ ((nI (132 + 6 * c) + (3 : Int32)) + x35_) (nI w)).bind fun S37_ => (rv_gR S37_ 11 189 15).bind fun a39_ => rv_lt (nI (134 + 6 * c)) fun x41_ => (rv_aI S37_ 0 a39_ x41_).bind fun x43_ => (rv_uI S37_ a39_ x41_ (x43_ + (1 : Int32))).bind fun S45_ => (rv_ck S45_ 11 189).bind fun u47_ => (fnX13_go n S45_ 189).bind fun S50_ => cX13_readCoin_90 n q' S50_ 189 (nI (132 + 6 * c))) = X → cX13_readCoin_90 n (q' + 1) R 189 (nI (132 + 6 * c)) = X := fun X hX => ref X (by
            rw [rc_189 hB2, Option.bind_some, mw, Option.bind_some, if_neg (show ¬ bI true = 0 by decide)]
            repeat (first | (conv => (lhs; arg 1; simp (disch := first | assumption | omega) only [tk_gI, tk_gL, tk_gR, tk_pI, tk_pL, rv_aI, rv_aL, rv_aR, rv_uI, rv_uL, rv_uB, rv_uZ, pu_ckI, pu_ckL, pu_lnI, pu_lnL, tk_rI, tk_rL, Option.bind_some, Option.map_some, rv_lt, tk_ix, z0, rc_189 hB2, r19, r15, rn_192 hB2, w0, e12, mf])); first | rw [Option.bind_some] | rw [bp_s] | rw [if_true] | rw [if_false] | rw [rv_lt_eq] | rw [if_pos (by omega)] | rw [if_neg (by omega)])
            rw [z2']
            repeat (first | (conv => (lhs; arg 1; simp (disch := first | assumption | omega) only [tk_gI, tk_gL, tk_gR, tk_pI, tk_pL, rv_aI, rv_aL, rv_aR, rv_uI, rv_uL, rv_uB, rv_uZ, pu_ckI, pu_ckL, pu_lnI, pu_lnL, tk_rI, tk_rL, Option.bind_some, Option.map_some, rv_lt, tk_ix, z3, rc_189 hB2, r15, rn_192 hB2, m2, m3])); first | rw [Option.bind_some] | rw [bp_s] | rw [if_true] | rw [if_false] | rw [rv_lt_eq] | rw [if_pos (by omega)] | rw [if_neg (by omega)])
            exact hX)
          by_cases ci : i < mc 3
          · obtain ⟨e5, h5⟩ := h1.scratch (n := n) hB1 (i := i) (w := w) hm ci (by omega)
            obtain ⟨C2, eC2⟩ : ∃ C2, C2 = rv_sI C1 98 c (nI (rb (rl mc c ++ [w]))) := ⟨_, rfl⟩
            obtain ⟨R2, eR2⟩ : ∃ R2, R2 = rv_sI (rv_sI R 192 (135 + 6 * c + i) (nI w)) 192 (134 + 6 * c) (nI (i + 1)) := ⟨_, rfl⟩
            rw [← eC2] at e5
            rw [← eC2, ← eR2] at h5
            have fc2 : rvf [98] C1 C2 := by rw [eC2]; exact rvf.sIr _ _ _ rfl
            have fr2 : rvf [192] R R2 := by rw [eR2]; exact (rvf.sIr _ _ _ rfl).tr (rvf.sIr _ _ _ rfl)
            have K2 : KX C2 R2 b L M T := (K1.fc fc2 rfl).fr fr2 rfl
            have i2' : isVT C2 a := i1.f fc2 rfl
            obtain ⟨C3, R3, T3, e6, e7, f3, g3, K3, nxK3⟩ := lk_next (n := n) hn K2
            have fa3 := FrA.of i2' f3 rfl
            have fl3 : FLG C3 R3 a f0 f1 f2 := by
              have q1 : FLG C1 R a f0 f1 f2 := hf.f fw (rvf.rf [] R) rfl rfl rfl rfl
              have q2 : FLG C2 R2 a f0 f1 f2 := ⟨(i1.rest fc2 rfl 5).trans q1.1, (i1.rest fc2 rfl 6).trans q1.2.1, (i1.rest fc2 rfl 7).trans q1.2.2.1, (fr2.at (a := 189) (k := 23) rfl).trans q1.2.2.2⟩
              exact q2.f fa3 g3 rfl rfl rfl rfl
            have hm3 : scm mc c i w (134 + 6 * c) = i + 1 := u1_eq _ _ _
            have h33 : i + 1 ≤ scm mc c i w 3 := by rw [scm_off (by omega) (by omega)]; exact ci
            have step := ih (i + 1) q q' C3 R3 T3 (scm mc c i w) (by omega) (by omega) (by omega) K3 fa3.2.1 (h5.f i2' fa3.1 g3 rfl rfl) fl3 hm3 h33 ⟨T.2.1, Nat.le_trans (by obtain ⟨p, a1, a2, a3⟩ := hp0; rw [a3]; exact Nat.le_trans a1 (tx_mono a2).1) (Nat.le_refl _), nxK3.2.2, nxK3.1⟩
            refine step.pre ((fw.v.tr (rvfV fc2 rfl)).tr fa3.v) ((fr2.mono rfl).tr (g3.mono rfl)) (pre2 _ ?_) (ref2 _ ?_) ?_
            · rw [if_pos (by rw [n_lt (by omega) (by omega)]; exact ci)]
              repeat (first | (conv => (lhs; arg 1; simp (disch := first | assumption | omega) only [tk_gI, tk_gL, tk_gR, tk_pI, tk_pL, rv_aI, rv_aL, rv_aR, rv_uI, rv_uL, rv_uB, rv_uZ, pu_ckI, pu_ckL, pu_lnI, pu_lnL, tk_rI, tk_rL, Option.bind_some, Option.map_some, rv_lt, tk_ix, ck1, i1.2.2.2.2, hVS1, c951, s14])); first | rw [Option.bind_some] | rw [bp_s] | rw [if_true] | rw [if_false] | rw [rv_lt_eq] | rw [if_pos (by omega)] | rw [if_neg (by omega)])
              rw [show (87 + 8 : Nat) = 95 from rfl, e5, Option.bind_some]
              repeat (first | (conv => (lhs; arg 1; simp (disch := first | assumption | omega) only [tk_gI, tk_gL, tk_gR, tk_pI, tk_pL, rv_aI, rv_aL, rv_aR, rv_uI, rv_uL, rv_uB, rv_uZ, pu_ckI, pu_ckL, pu_lnI, pu_lnL, tk_rI, tk_rL, Option.bind_some, Option.map_some, rv_lt, tk_ix, i2'.ck, i2'.2.2.2.1, rc_65 K2.1])); first | rw [Option.bind_some] | rw [bp_s] | rw [if_true] | rw [if_false] | rw [rv_lt_eq] | rw [if_pos (by omega)] | rw [if_neg (by omega)])
              rw [e6, Option.bind_some, rv_lt_eq, z1, nI_add]
            · rw [if_neg (by rw [n_eq (by omega) (by omega)]; omega)]
              have m2' : (rv_sI R 192 (135 + 6 * c + i) (nI w)).2.1 192 (134 + 6 * c) = nI i := by rw [rv_sI_k _ _ (by omega)]; exact m2
              repeat (first | (conv => (lhs; arg 1; simp (disch := first | assumption | omega) only [tk_gI, tk_gL, tk_gR, tk_pI, tk_pL, rv_aI, rv_aL, rv_aR, rv_uI, rv_uL, rv_uB, rv_uZ, pu_ckI, pu_ckL, pu_lnI, pu_lnL, tk_rI, tk_rL, Option.bind_some, Option.map_some, rv_lt, tk_ix, z3', rc_189 hB2, r15, rn_192 hB2, m2, m2'])); first | rw [Option.bind_some] | rw [bp_s] | rw [if_true] | rw [if_false] | rw [rv_lt_eq] | rw [if_pos (by omega)] | rw [if_neg (by omega)])
              rw [show nI i + (1 : Int32) = nI (i + 1) by rw [z1, nI_add], ← eR2, e7, Option.bind_some]
            · rw [fa3.2.2 2 rfl, i1.rest fc2 rfl 2, fw.2.2 2 rfl]
          · obtain ⟨C', R', e1, e2, f1', f2', g⟩ := lk_fail (n := n) K1 (f := 4) (by decide) (Or.inr ⟨by omega, by omega⟩)
            have fa := FrA.of i1 f1' rfl
            have ei : i = mc 3 := by omega
            refine ⟨C', R', fw.v.tr fa.v, f2'.mono rfl, Or.inl ⟨pre2 _ ?_, ref2 _ ?_, g⟩⟩
            · rw [if_neg (by rw [n_lt (by omega) (by omega)]; exact ci), cX10_readCoin_119]
              repeat (first | (conv => (lhs; arg 1; simp (disch := first | assumption | omega) only [tk_gI, tk_gL, tk_gR, tk_pI, tk_pL, rv_aI, rv_aL, rv_aR, rv_uI, rv_uL, rv_uB, rv_uZ, pu_ckI, pu_ckL, pu_lnI, pu_lnL, tk_rI, tk_rL, Option.bind_some, Option.map_some, rv_lt, tk_ix, ck1, i1.2.2.2.1, rc_65 hB1])); first | rw [Option.bind_some] | rw [bp_s] | rw [if_true] | rw [if_false] | rw [rv_lt_eq] | rw [if_pos (by omega)] | rw [if_neg (by omega)])
              rw [z4, e1, bp_s]
              rfl
            · rw [if_pos (by rw [ei]), cX13_readCoin_157, rc_189 hB2, Option.bind_some, z4, e2, bp_s]
              rfl
      · have cf : iw T 22 = false := by
          cases e : iw T 22
          · rfl
          · exact absurd e cw
        rw [cf] at mw
        obtain ⟨C', R', e1, e2, f1', f2', g⟩ := lk_fail (n := n) hK (f := 1) (by decide) (Or.inl rfl)
        have fa := FrA.of ha f1' rfl
        refine ⟨C', R', fa.v, f2'.mono rfl, Or.inl ⟨pre _ ?_, ref _ ?_, g⟩⟩
        · rw [kA cf C' e1, bp_s, if_pos rfl]
        · rw [rc_189 hB2, Option.bind_some, mw, Option.bind_some, if_pos (show bI false = 0 from rfl), cX13_readCoin_105, rc_189 hB2, Option.bind_some, z1, e2, bp_s]
          rfl
    · have f1' : rvf [192] R (rv_sI R 192 1 (nI (c + 1))) := rvf.sIr _ _ _ rfl
      refine ⟨C, rv_sI R 192 1 (nI (c + 1)), rvf.rf _ _, f1'.mono rfl, Or.inr ⟨pre _ ?_, ref _ ?_, T, _, _, f0, f1, f2, ⟨hK.fr f1' rfl, ha, h.D⟩, ⟨hf.1, hf.2.1, hf.2.2.1, (f1'.at (a := 189) (k := 23) rfl).trans hf.2.2.2⟩, rfl, hp0⟩⟩
      · rw [if_neg (by rw [z2, n_eq (by omega) (by omega)]; exact kd)]
      · rw [if_neg (by rw [z2, n_eq (by omega) (by omega), rkd_2e]; exact kd), cX13_readCoin_200]
        have w1 := d3 1 (by decide)
        rw [d6] at w1
        repeat (first | (conv => (lhs; arg 1; simp (disch := first | assumption | omega) only [tk_gI, tk_gL, tk_gR, tk_pI, tk_pL, rv_aI, rv_aL, rv_aR, rv_uI, rv_uL, rv_uB, rv_uZ, pu_ckI, pu_ckL, pu_lnI, pu_lnL, tk_rI, tk_rL, Option.bind_some, Option.map_some, rv_lt, tk_ix, z1, nI_add, rc_189 hB2, r15, rn_192 hB2, w1])); first | rw [Option.bind_some] | rw [bp_s] | rw [if_true] | rw [if_false] | rw [rv_lt_eq] | rw [if_pos (by omega)] | rw [if_neg (by omega)])
/-- the class's purse has one coin more -/
theorem LCN.start {v w : Nat} (h : DRF C R m wd) (h40 : vC m < 40) (hv : va m (vC m) = v) (hw : ow m (vC m) = w) (hm : mn m (vC m) = 0) (v1 : 1 ≤ v ∧ v ≤ 99) (w1 : w < vW m) : LCN (rv_sI (rv_sI (rv_sI (rv_sI C 95 0 (nI (vC m + 1))) 96 (vC m) (nI v)) 97 (vC m) (nI w)) 98 (vC m) (nI 0)) R m wd (vC m) := by
  obtain ⟨⟨hF, hP, hD⟩, d2, d3, d4, d5⟩ := h
  obtain ⟨hp, hc, hd⟩ := id d5.1
  have e : ∀ k, k ≠ 1 → u1 m 1 (vC m + 1) k = m k := fun k hk => u1_ne _ _ hk
  have eC : vC (u1 m 1 (vC m + 1)) = vC m + 1 := u1_eq _ _ _
  have hrl0 : rl m (vC m) = [] := by
    unfold rl
    rw [hm]
    rfl
  refine ⟨⟨?_, ?_, ?_⟩, d2, d3, d4, ?_, rfl, h40⟩
  · refine FR.c8 ?_ hp (e 0 (by decide)) (fun k h1 h2 => e k (by omega))
    exact (((hF.wx (Or.inr (by decide))).wx (Or.inr (by decide))).wx (Or.inr (by decide))).wx (Or.inr (by decide))
  · obtain ⟨b1, b2, b3, b4, b5⟩ := hP
    refine ⟨?_, ?_, fun x hx => ?_, fun x hx => ?_, fun x hx => ?_⟩
    · rw [rv_sI_a _ _ _ (by decide), rv_sI_a _ _ _ (by decide), rv_sI_a _ _ _ (by decide), rv_sI_eq, eC]
    · rw [rv_sI_a _ _ _ (by decide), rv_sI_a _ _ _ (by decide), rv_sI_a _ _ _ (by decide), rv_sI_k _ _ (by decide), show vN (u1 m 1 (vC m + 1)) = vN m from e 3 (by decide)]; exact b2
    · rw [eC] at hx
      rw [rv_sI_a _ _ _ (by decide), rv_sI_a _ _ _ (by decide), show va (u1 m 1 (vC m + 1)) x = va m x from e _ (by omega)]
      by_cases cx : x = vC m
      · rw [cx, hv]; exact rv_sI_eq _ _ _ _
      · rw [rv_sI_k _ _ cx, rv_sI_a _ _ _ (by decide)]; exact b3 x (by omega)
    · rw [eC] at hx
      rw [rv_sI_a _ _ _ (by decide), show ow (u1 m 1 (vC m + 1)) x = ow m x from e _ (by omega)]
      by_cases cx : x = vC m
      · rw [cx, hw]; exact rv_sI_eq _ _ _ _
      · rw [rv_sI_k _ _ cx, rv_sI_a _ _ _ (by decide), rv_sI_a _ _ _ (by decide)]; exact b4 x (by omega)
    · rw [eC] at hx
      rw [rl_u x 1 _ (by decide)]
      by_cases cx : x = vC m
      · rw [cx, hrl0]; exact rv_sI_eq _ _ _ _
      · rw [rv_sI_k _ _ cx, rv_sI_a _ _ _ (by decide), rv_sI_a _ _ _ (by decide), rv_sI_a _ _ _ (by decide)]; exact b5 x (by omega)
  · refine DR.c2 ?_ (e 2 (by decide)) (e 4 (by decide)) (e 5 (by decide)) (fun k hk => e k (by omega))
    exact (((hD.wx ⟨by decide, Or.inl (by decide)⟩).wx ⟨by decide, Or.inl (by decide)⟩).wx ⟨by decide, Or.inl (by decide)⟩).wx ⟨by decide, Or.inl (by decide)⟩
  · refine d5.same ⟨hp.c8 (e 0 (by decide)) (fun k h1 h2 => e k (by omega)), ?_, hd.c9 (e 0 (by decide)) (e 2 (by decide)) (by rw [e 4 (by decide)]; exact ⟨hd.2.1, hd.2.2.1⟩) (by rw [e 5 (by decide)]; exact hd.2.2.2.1) (e 6 (by decide)) (fun k hk => e k (by omega))⟩ (e 0 (by decide)) (e 6 (by decide)) (fun k h1 h2 => e k (by omega))
    · obtain ⟨q1, q2, q3⟩ := hc
      have eW : vW (u1 m 1 (vC m + 1)) = vW m := e 0 (by decide)
      have eN : vN (u1 m 1 (vC m + 1)) = vN m := e 3 (by decide)
      refine ⟨by rw [eC]; omega, by rw [eN]; exact q2, fun x hx => ?_⟩
      rw [eC] at hx
      rw [eW, eN, show va (u1 m 1 (vC m + 1)) x = va m x from e _ (by omega), show ow (u1 m 1 (vC m + 1)) x = ow m x from e _ (by omega), show mn (u1 m 1 (vC m + 1)) x = mn m x from e _ (by omega)]
      by_cases cx : x = vC m
      · rw [cx, hv, hw, hm]
        exact ⟨v1.1, v1.2, w1, Nat.zero_le _, fun i hi => absurd hi (Nat.not_lt_zero i)⟩
      · obtain ⟨g1, g2, g3, g4, g5⟩ := q3 x (by omega)
        refine ⟨g1, g2, g3, g4, fun i hi => ?_⟩
        rw [show rm (u1 m 1 (vC m + 1)) x i = rm m x i from e _ (by omega)]
        exact g5 i hi
end
