/-! THE LAW: its loop -/
section
variable {n L : Nat} {xs : Nat → Int32}
theorem Iv.le {i j : Nat} {S : rvS} (h : Iv i S) (hij : i ≤ j) : Iv j S := by
  obtain ⟨a1, a2, a3, a4, a5, a6, a7, a8, a9, ⟨k, k1, k2⟩, w, w1, w2⟩ := h
  exact ⟨a1, a2, a3, a4, a5, a6, a7, a8, a9, ⟨k, by omega, k2⟩, w, by omega, w2⟩
theorem law_cmp {L p : Nat} (hL : L ≤ 3072) (hp : p ≤ 3100) (h : L < p + 6) : (Int32.ofNat L - (6 : Int32)) < nI p := by
  by_cases c : 6 ≤ L
  · have e : Int32.ofNat L - (6 : Int32) = nI (L - 6) := z_sub c
    rw [e, n_lt (by omega) (by omega)]
    omega
  · have e1 : (nI p).toInt = (p : Int) := nI_toInt (by omega)
    have c : L = 0 ∨ L = 1 ∨ L = 2 ∨ L = 3 ∨ L = 4 ∨ L = 5 := by omega
    rw [Int32.lt_iff_toInt_lt, e1]
    rcases c with rfl | rfl | rfl | rfl | rfl | rfl
    · rw [show (Int32.ofNat 0 - (6 : Int32)).toInt = -6 by decide]; omega
    · rw [show (Int32.ofNat 1 - (6 : Int32)).toInt = -5 by decide]; omega
    · rw [show (Int32.ofNat 2 - (6 : Int32)).toInt = -4 by decide]; omega
    · rw [show (Int32.ofNat 3 - (6 : Int32)).toInt = -3 by decide]; omega
    · rw [show (Int32.ofNat 4 - (6 : Int32)).toInt = -2 by decide]; omega
    · rw [show (Int32.ofNat 5 - (6 : Int32)).toInt = -1 by decide]; omega
theorem law_cmp2 {L p : Nat} (hL : L ≤ 3072) (hp : p ≤ 3100) (h : p + 6 ≤ L) : ¬ (Int32.ofNat L - (6 : Int32)) < nI p := by
  have e : Int32.ofNat L - (6 : Int32) = nI (L - 6) := z_sub (b := 6) (show 6 ≤ L by omega)
  rw [e, n_lt (by omega) (by omega)]
  omega
theorem law_loop (hn : 600000 ≤ n) (hL : L ≤ 3072) : ∀ (r p i q : Nat) (S : rvS), L < p + 6 * r + 6 → r < q → i + r ≤ 600 → p ≤ 3100 → Iv i S → ∃ S', Iv 600 S' ∧ cL_law_23 n L xs q S 64 189 217 (nI p) = some (1, S') := by
  have stop : ∀ (p q : Nat) (S : rvS) (i : Nat), L < p + 6 → p ≤ 3100 → Iv i S → cL_law_23 n L xs (q + 1) S 64 189 217 (nI p) = some (1, S) := fun p q S i h1 hp h => by
    obtain ⟨v1, v2, v3⟩ := h.vl
    have hc : (Int32.ofNat L - (6 : Int32)) < nI p := law_cmp hL hp h1
    rw [cL_law_23, v1, Option.bind_some, v2, Option.bind_some, v3, Option.bind_some, if_pos hc]
  intro r
  induction r with
  | zero =>
    intro p i q S h1 h2 h3 hp h
    obtain ⟨q, rfl⟩ : ∃ q', q = q' + 1 := ⟨q - 1, by omega⟩
    exact ⟨S, h.le (by omega), stop p q S i (by omega) hp h⟩
  | succ r ih =>
    intro p i q S h1 h2 h3 hp h
    obtain ⟨q, rfl⟩ : ∃ q', q = q' + 1 := ⟨q - 1, by omega⟩
    by_cases c : L < p + 6
    · exact ⟨S, h.le (by omega), stop p q S i c hp h⟩
    · obtain ⟨v1, v2, v3⟩ := h.vl
      have hc : ¬ (Int32.ofNat L - (6 : Int32)) < nI p := law_cmp2 hL hp (by omega)
      have hp6 : p + 6 ≤ L := by omega
      have hi : i ≤ 1000 := by omega
      have ij : rv_ix L (nI p) = some p := tk_ix (by omega) (by omega)
      have go : ∀ {x}, Go i p (fun a1 a2 a3 x4 S => cL_law_23 n L xs q S a1 a2 a3 x4) x → ∃ S', Iv 600 S' ∧ x = some (1, S') := fun {x} g => by
        obtain ⟨S', g1, g2⟩ := g
        obtain ⟨S2, k1, k2⟩ := ih (p + 6) (i + 1) q S' (by omega) (by omega) (by omega) (by omega) g1
        exact ⟨S2, k1, g2.trans k2⟩
      rw [cL_law_23, v1, Option.bind_some, v2, Option.bind_some, v3, Option.bind_some, if_neg hc, ij, Option.bind_some, rv_lt_eq]
      by_cases c0 : (xs p &&& (63 : Int32)) = 0
      · rw [if_pos c0]
        exact go (st_feed hn hL hp6 hi h)
      rw [if_neg c0]
      by_cases c1 : (xs p &&& (63 : Int32)) = 1
      · rw [if_pos c1]
        exact go (st_end hn hL hp6 hi h)
      rw [if_neg c1]
      by_cases c2 : (xs p &&& (63 : Int32)) = 2
      · rw [if_pos c2]
        exact go (st_valley hn hL hp6 hi h)
      rw [if_neg c2]
      by_cases c3 : (xs p &&& (63 : Int32)) = 3
      · rw [if_pos c3]
        exact go (st_fault hn hL hp6 hi h)
      rw [if_neg c3]
      by_cases c4 : (xs p &&& (63 : Int32)) = 4
      · rw [if_pos c4]
        exact go (st_who hn hL hp6 hi h)
      rw [if_neg c4]
      by_cases c5 : (xs p &&& (63 : Int32)) = 5
      · rw [if_pos c5]
        exact go (st_coin hn hL hp6 hi h)
      rw [if_neg c5]
      by_cases c6 : (xs p &&& (63 : Int32)) = 6
      · rw [if_pos c6]
        exact go (st_rim hn hL hp6 hi h)
      rw [if_neg c6]
      by_cases c7 : (xs p &&& (63 : Int32)) = 7
      · rw [if_pos c7]
        exact go (st_near hn hL hp6 hi h)
      rw [if_neg c7]
      by_cases c8 : (xs p &&& (63 : Int32)) = 8
      · rw [if_pos c8]
        exact go (st_road hn hL hp6 hi h)
      rw [if_neg c8]
      by_cases c9 : (xs p &&& (63 : Int32)) = 9
      · rw [if_pos c9]
        exact go (st_why hn hL hp6 hi h)
      rw [if_neg c9]
      by_cases c10 : (xs p &&& (63 : Int32)) = 10
      · rw [if_pos c10]
        exact go (st_pay hn hL hp6 hi h)
      rw [if_neg c10]
      by_cases c11 : (xs p &&& (63 : Int32)) = 11
      · rw [if_pos c11]
        exact go (st_whom hn hL hp6 hi h)
      rw [if_neg c11]
      by_cases c12 : (xs p &&& (63 : Int32)) = 12
      · rw [if_pos c12]
        exact go (st_exact hn hL hp6 hi h)
      rw [if_neg c12]
      by_cases c13 : (xs p &&& (63 : Int32)) = 13
      · rw [if_pos c13]
        exact go (st_given hn hL hp6 hi h)
      rw [if_neg c13]
      by_cases c14 : (xs p &&& (63 : Int32)) = 14
      · rw [if_pos c14]
        exact go (st_settle hn hL hp6 hi h)
      rw [if_neg c14]
      by_cases c15 : (xs p &&& (63 : Int32)) = 15
      · rw [if_pos c15]
        exact go (st_most hn hL hp6 hi h)
      rw [if_neg c15]
      by_cases c16 : (xs p &&& (63 : Int32)) = 16
      · rw [if_pos c16]
        exact go (st_payable hn hL hp6 hi h)
      rw [if_neg c16]
      by_cases c17 : (xs p &&& (63 : Int32)) = 17
      · rw [if_pos c17]
        exact go (st_keep hn hL hp6 hi h)
      rw [if_neg c17]
      by_cases c18 : (xs p &&& (63 : Int32)) = 18
      · rw [if_pos c18]
        exact go (st_change hn hL hp6 hi h)
      rw [if_neg c18]
      by_cases c19 : (xs p &&& (63 : Int32)) = 19
      · rw [if_pos c19]
        exact go (st_earned hn hL hp6 hi h)
      rw [if_neg c19]
      by_cases c20 : (xs p &&& (63 : Int32)) = 20
      · rw [if_pos c20]
        exact go (st_changed hn hL hp6 hi h)
      rw [if_neg c20]
      by_cases c21 : (xs p &&& (63 : Int32)) = 21
      · rw [if_pos c21]
        exact go (st_steal hn hL hp6 hi h)
      rw [if_neg c21]
      by_cases c22 : (xs p &&& (63 : Int32)) = 22
      · rw [if_pos c22]
        exact go (st_wed hn hL hp6 hi h)
      rw [if_neg c22]
      by_cases c23 : (xs p &&& (63 : Int32)) = 23
      · rw [if_pos c23]
        exact go (st_born hn hL hp6 hi h)
      rw [if_neg c23]
      by_cases c24 : (xs p &&& (63 : Int32)) = 24
      · rw [if_pos c24]
        exact go (st_dies hn hL hp6 hi h)
      rw [if_neg c24]
      by_cases c25 : (xs p &&& (63 : Int32)) = 25
      · rw [if_pos c25]
        exact go (st_stuck hn hL hp6 hi h)
      rw [if_neg c25]
      by_cases c26 : (xs p &&& (63 : Int32)) = 26
      · rw [if_pos c26]
        exact go (st_frees hn hL hp6 hi h)
      rw [if_neg c26]
      by_cases c27 : (xs p &&& (63 : Int32)) = 27
      · rw [if_pos c27]
        exact go (st_cradle hn hL hp6 hi h)
      rw [if_neg c27]
      by_cases c28 : (xs p &&& (63 : Int32)) = 28
      · rw [if_pos c28]
        exact go (st_opens hn hL hp6 hi h)
      rw [if_neg c28]
      by_cases c29 : (xs p &&& (63 : Int32)) = 29
      · rw [if_pos c29]
        exact go (st_hands hn hL hp6 hi h)
      rw [if_neg c29]
      by_cases c30 : (xs p &&& (63 : Int32)) = 30
      · rw [if_pos c30]
        exact go (st_handAt hn hL hp6 hi h)
      rw [if_neg c30]
      by_cases c31 : (xs p &&& (63 : Int32)) = 31
      · rw [if_pos c31]
        exact go (st_again hn hL hp6 hi h)
      rw [if_neg c31]
      by_cases c32 : (xs p &&& (63 : Int32)) = 32
      · rw [if_pos c32]
        exact go (st_ever hn hL hp6 hi h)
      rw [if_neg c32]
      by_cases c33 : (xs p &&& (63 : Int32)) = 33
      · rw [if_pos c33]
        exact go (st_debt hn hL hp6 hi h)
      rw [if_neg c33]
      by_cases c34 : (xs p &&& (63 : Int32)) = 34
      · rw [if_pos c34]
        exact go (st_clear hn hL hp6 hi h)
      rw [if_neg c34]
      by_cases c35 : (xs p &&& (63 : Int32)) = 35
      · rw [if_pos c35]
        exact go (st_orders hn hL hp6 hi h)
      rw [if_neg c35]
      by_cases c36 : (xs p &&& (63 : Int32)) = 36
      · rw [if_pos c36]
        exact go (st_orderAt hn hL hp6 hi h)
      rw [if_neg c36]
      by_cases c37 : (xs p &&& (63 : Int32)) = 37
      · rw [if_pos c37]
        exact go (st_ways hn hL hp6 hi h)
      rw [if_neg c37]
      by_cases c38 : (xs p &&& (63 : Int32)) = 38
      · rw [if_pos c38]
        exact go (st_had hn hL hp6 hi h)
      rw [if_neg c38]
      by_cases c39 : (xs p &&& (63 : Int32)) = 39
      · rw [if_pos c39]
        exact go (st_days hn hL hp6 hi h)
      rw [if_neg c39]
      by_cases c40 : (xs p &&& (63 : Int32)) = 40
      · rw [if_pos c40]
        exact go (st_drawn hn hL hp6 hi h)
      rw [if_neg c40]
      by_cases c41 : (xs p &&& (63 : Int32)) = 41
      · rw [if_pos c41]
        exact go (st_trade hn hL hp6 hi h)
      rw [if_neg c41]
      by_cases c42 : (xs p &&& (63 : Int32)) = 42
      · rw [if_pos c42]
        exact go (st_sentence hn hL hp6 hi h)
      rw [if_neg c42]
      by_cases c43 : (xs p &&& (63 : Int32)) = 43
      · rw [if_pos c43]
        exact go (st_said hn hL hp6 hi h)
      rw [if_neg c43]
      by_cases c44 : (xs p &&& (63 : Int32)) = 44
      · rw [if_pos c44]
        exact go (st_image hn hL hp6 hi h)
      rw [if_neg c44]
      by_cases c45 : (xs p &&& (63 : Int32)) = 45
      · rw [if_pos c45]
        exact go (st_restore hn hL hp6 hi h)
      rw [if_neg c45]
      by_cases c46 : (xs p &&& (63 : Int32)) = 46
      · rw [if_pos c46]
        exact go (st_count hn hL hp6 hi h)
      rw [if_neg c46]
      rw [rv_lt_eq, show nI p + (6 : Int32) = nI (p + 6) from nI_add p 6]
      exact ih (p + 6) (i + 1) q S (by omega) (by omega) (by omega) (by omega) (h.le (by omega))
end
