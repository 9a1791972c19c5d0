/-! THE LAW: from its start to its end -/
section
set_option maxRecDepth 100000 in
theorem boot_3 : (rv_boot 4000000).map (fun S => S.2.1 189 28 == iM) = some true := by decide +kernel
set_option maxRecDepth 100000 in
theorem boot_4 : (fnX12_init 4000000 (rv_new rv_S0 (10, rv_N 10)) 64).map (fun S => S.1.length) = some 125 := by decide +kernel
theorem sh0_sz : (rv_sh0.map (fun q => q.2)).sum ≤ 7000000 := by decide +kernel
theorem sum_rep : ∀ k, ((List.replicate k ((9, 8) : Nat × Nat)).map (fun q => q.2)).sum = 8 * k := by
  intro k
  induction k with
  | zero => rfl
  | succ k ih =>
    rw [List.replicate_succ, List.map_cons, List.sum_cons, ih]
    show 8 + 8 * k = 8 * (k + 1)
    omega
theorem Iv_start : ∃ S, rv_boot 4000000 = some S ∧ S.1 = rv_sh0 ∧ Iv 0 S := by
  obtain ⟨S, e, sh, hB, b, b215, l12⟩ := boot_ok
  have b28 : S.2.1 189 28 = iM := by
    have h := boot_3
    rw [e] at h
    exact eq_of_beq (Option.some.inj h)
  have hF : FR S (67 + 1) plN := by
    refine ⟨b 68 0 0 (by decide), b 68 1 0 (by decide), b 68 2 0 (by decide), fun w hw => absurd hw (Nat.not_lt_zero w), fun w hw => absurd hw (Nat.not_lt_zero w), fun w hw => absurd hw (Nat.not_lt_zero w), fun j hj => ?_, fun j hj => ?_⟩
    · have : j = 0 ∨ j = 1 ∨ j = 2 ∨ j = 3 := by omega
      rcases this with rfl | rfl | rfl | rfl
      · exact b 73 0 1 (by decide)
      · exact b 73 1 2 (by decide)
      · exact b 73 2 4 (by decide)
      · exact b 73 3 8 (by decide)
    · have : j = 0 ∨ j = 1 ∨ j = 2 ∨ j = 3 := by omega
      rcases this with rfl | rfl | rfl | rfl
      · exact b 74 0 0 (by decide)
      · exact b 74 1 0 (by decide)
      · exact b 74 2 0 (by decide)
      · exact b 74 3 0 (by decide)
  have hP : PR S (67 + 8) plN := ⟨b 75 0 0 (by decide), b 75 1 3 (by decide), fun c hc => absurd hc (Nat.not_lt_zero c), fun c hc => absurd hc (Nat.not_lt_zero c), fun c hc => absurd hc (Nat.not_lt_zero c)⟩
  have hD : DR S 67 plN := ⟨b 67 6 0 (by decide), b 67 7 0 (by decide), b 67 8 8 (by decide), b 67 9 1 (by decide), fun k hk => absurd hk (Nat.not_lt_zero k), fun k hk => absurd hk (Nat.not_lt_zero k), fun k hk => absurd hk (Nat.not_lt_zero k)⟩
  have hL : MRL S plN := fun k hk => by
    rw [if_pos (show S.2.1 189 22 = 0 from b 189 22 0 (by decide))]
    exact plN_pl hk
  have hV : VI S plN (fun _ => []) := ⟨hB, ⟨hF, hP, hD⟩, hL, plN_okm, fun w hw => absurd hw (Nat.not_lt_zero w), fun w hw => absurd hw (Nat.not_lt_zero w), fun w hw => absurd hw (Nat.not_lt_zero w)⟩
  have hC : CSn S 67 0 [] := ⟨b 79 4 0 (by decide), b 79 5 0 (by decide), fun j t h => (by cases h), Nat.zero_le _, fun t h => (by cases h)⟩
  have hK : PK S := by
    refine ⟨0, by decide, b 64 4 0 (by decide), fun k hk => ?_⟩
    have : k = 0 ∨ k = 1 := by omega
    rcases this with rfl | rfl
    · exact ⟨b 198 0 0 (by decide), fun z => absurd z (by decide)⟩
    · exact ⟨b 198 1 0 (by decide), fun z => absurd z (by decide)⟩
  refine ⟨S, e, sh, ⟨plN, fun _ => [], 0, [], hV, hC, Or.inl ⟨rfl, b 191 420 0 (by decide)⟩⟩, hK, Or.inr ⟨b 64 13 0 (by decide), b28⟩, ⟨0, by decide, b 111 5 0 (by decide), b 189 36 0 (by decide), fun j hj => absurd hj (Nat.not_lt_zero j)⟩, ⟨0, by decide, b 118 5 0 (by decide), b 189 43 0 (by decide), fun j hj => absurd hj (Nat.not_lt_zero j)⟩, ⟨0, by decide, b 111 8 0 (by decide), b 189 47 0 (by decide), fun j hj => absurd hj (Nat.not_lt_zero j)⟩, Or.inl ⟨b 64 10 0 (by decide), b215⟩, ⟨0, Nat.zero_le _, b 65 1 0 (by decide), b 189 2 0 (by decide), fun j hj => absurd hj (Nat.not_lt_zero j)⟩, (b 64 11 0 (by decide)).trans (b 189 10 0 (by decide)).symm, ⟨0, Nat.le_refl _, by rw [sh]; exact (List.append_nil _).symm⟩, 0, Nat.le_refl _, b 60 0 0 (by decide), b 60 1 0 (by decide)⟩
/-- the law's function comes to 1 on every script, in the claim's room -/
theorem rv_main (L : Nat) (hL : L ≤ 3072) (xs : Nat → Int32) : ∃ (n : Nat) (S1 : rvS), fnL_law n L xs rv_S0 = some (1, S1) ∧ rv_len S1 ≤ 601024 ∧ rv_sz S1 ≤ 7293034 := by
  obtain ⟨S, e, sh, hI⟩ := Iv_start
  unfold rv_boot at e
  obtain ⟨S7, e7, e⟩ := rv_b_e e
  obtain ⟨S17, e17, e⟩ := rv_b_e e
  have eS : rv_new S17 (51, 1) = S := Option.some.inj e
  have l7 : S7.1.length = 125 := by
    have h := boot_4
    rw [e7] at h
    exact Option.some.inj h
  have l17 : S17.1.length = 153 := by
    have h : (rv_new S17 (51, 1)).1.length = S17.1.length + 1 := rv_len_new
    rw [eS, sh, sh0_len] at h
    omega
  obtain ⟨S1, hI1, e1⟩ := law_loop (n := 4000000) (L := L) (xs := xs) (by decide) hL 520 0 0 4000000 S (by omega) (by decide) (by decide) (by decide) hI
  refine ⟨4000000, S1, ?_, ?_, ?_⟩
  · have h0 : 64 + rv_S0.1.length = 64 := rfl
    have h7 : 64 + S7.1.length = 189 := by rw [l7]
    have h17 : 64 + S17.1.length = 217 := by rw [l17]
    rw [fnL_law, rv_lt_eq, rv_lt_eq, h0, e7, Option.bind_some, rv_lt_eq, rv_lt_eq, h7, e17, Option.bind_some, rv_lt_eq, rv_lt_eq, h17, eS]
    exact e1
  · obtain ⟨-, -, -, -, -, -, -, -, -, -, w, w1, w2, w3⟩ := id hI1
    have hl := hI1.len.2
    have ew : (S1.2.1 60 0).toNatClampNeg = w := by
      show (S1.2.1 60 0).toInt.toNat = w
      rw [w2, nI_toInt (by omega)]
      rfl
    unfold rv_len
    rw [ew]
    omega
  · obtain ⟨-, -, -, -, -, -, -, -, -, ⟨k, k1, k2⟩, w, w1, w2, w3⟩ := id hI1
    have ew : (S1.2.1 60 1).toNatClampNeg = 6 * w := by
      show (S1.2.1 60 1).toInt.toNat = 6 * w
      rw [w3, nI_toInt (by omega)]
      rfl
    have := sh0_sz
    unfold rv_sz
    rw [ew, k2, List.map_append, List.sum_append, sum_rep]
    omega
end
