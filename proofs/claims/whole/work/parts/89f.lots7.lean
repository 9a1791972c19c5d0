/-! LOTS: the valley stays one -/
section
variable {n : Nat} {S : rvS} {m m' : Nat → Nat} {wd : Nat → List Nat}
theorem br_CR {S1 : rvS} {u : Nat} (hR : CR S 67 m) (hk : okm m) (hW : vW m < 24) (f1 : rvf [68, 69, 70, 71, 72, 74] S S1) (g1 : FR S1 (67 + 1) (br m u)) : CR S1 67 (br m u) := by
  obtain ⟨hF, hP, hD⟩ := hR
  have h40 := hk.2.1.1
  have hi : ∀ k, 132 ≤ k → br m u k = m k := fun k hk => br_off (by omega) (Or.inr (by show 13 + 5 * vW m ≤ k; omega))
  have lo : ∀ k, k ≠ 0 → k < 8 → br m u k = m k := fun k h0 hk => br_off h0 (Or.inl (by omega))
  have p1 : ∀ k, S1.2.1 (67 + 8) k = S.2.1 (67 + 8) k := f1.row rfl rfl
  have p2 : ∀ k, S1.2.1 (67 + 8 + 1) k = S.2.1 (67 + 8 + 1) k := f1.row rfl rfl
  have p3 : ∀ k, S1.2.1 (67 + 8 + 2) k = S.2.1 (67 + 8 + 2) k := f1.row rfl rfl
  have p4 : ∀ k, S1.2.1 (67 + 8 + 3) k = S.2.1 (67 + 8 + 3) k := f1.row rfl rfl
  have d0 : ∀ k, S1.2.1 67 k = S.2.1 67 k := f1.row rfl rfl
  have d1 : ∀ k, S1.2.1 (67 + 17) k = S.2.1 (67 + 17) k := f1.row rfl rfl
  have d2 : ∀ k, S1.2.1 (67 + 18) k = S.2.1 (67 + 18) k := f1.row rfl rfl
  have d3 : ∀ k, S1.2.1 (67 + 19) k = S.2.1 (67 + 19) k := f1.row rfl rfl
  obtain ⟨b1, b2, b3, b4, b5⟩ := hP
  obtain ⟨c1, c2, c3, c4, c5, c6, c7⟩ := hD
  have hP1 : PR S1 (67 + 8) m := ⟨(p1 _).trans b1, (p1 _).trans b2, fun c h => (p2 c).trans (b3 c h), fun c h => (p3 c).trans (b4 c h), fun c h => (p4 c).trans (b5 c h)⟩
  have hD1 : DR S1 67 m := ⟨(d0 _).trans c1, (d0 _).trans c2, (d0 _).trans c3, (d0 _).trans c4, fun c h => (d1 c).trans (c5 c h), fun c h => (d2 c).trans (c6 c h), fun c h => (d3 c).trans (c7 c h)⟩
  exact ⟨g1, hP1.c h40 (lo 1 (by decide) (by decide)) (lo 3 (by decide) (by decide)) (fun k h1 h2 => hi k h1), hD1.c2 (lo 2 (by decide) (by decide)) (lo 4 (by decide) (by decide)) (lo 5 (by decide) (by decide)) (fun k h1 => hi k (by omega))⟩
theorem dpay_ok (hk : okm m) (hW : 0 < vW m) (s : Int32) : okm (dpay m s).1 ∧ ∀ k, k < 132 → (dpay m s).1 k = m k := by
  have h40 := hk.2.1.1
  rw [dpay]
  split
  · exact ⟨hk, fun _ _ => rfl⟩
  · next c0 =>
    have lk := dr_lt (sd (sd s)) (show 0 < fb_ct (fun c => decide (ow m c = dr s (vW m))) (vC m) by omega)
    obtain ⟨-, kl, -⟩ := k_kth (n := 50) (S := rv_S0) (Nat.le_refl 50) h40 lk
    split
    · exact ⟨mv_okm hk kl (dr_lt (sd s) hW), fun k hk => mv_lo _ k hk⟩
    · exact ⟨hk, fun _ _ => rfl⟩
theorem dbr_ok (hk : okm m) {a : Nat} (hu : at_ m a < 4) (s : Int32) : okm (dbr m s a).1 := by
  rw [dbr]
  split
  · next h => exact br_okm hk h.2 hu
  · exact hk
end
section
variable {n : Nat} {S : rvS} {m m' : Nat → Nat} {wd : Nat → List Nat}
theorem dthf_ok (hk : okm m) (hW : 0 < vW m) (hC : 0 < vC m) (s : Int32) : okm (dthf m s).1 := by
  rw [dthf]
  split
  · exact hk
  · split
    · exact hk
    · exact own_okm hk (dr_lt (sd s) hC) (dr_lt s hW)
theorem d16_ok (hk : okm m) (hW : 0 < vW m) (hC : 0 < vC m) (s : Int32) : okm (d16 m s).1 := by
  rw [d16]
  split
  · exact dthf_ok hk hW hC (sd s)
  · exact hk
end
