/-! THE START: what the constructors leave -/
section
def bt0 : List (Nat × Nat × Nat) := [(68, 0, 0), (68, 1, 0), (68, 2, 0), (73, 0, 1), (73, 1, 2), (73, 2, 4), (73, 3, 8), (74, 0, 0), (74, 1, 0), (74, 2, 0), (74, 3, 0), (75, 0, 0), (75, 1, 3), (67, 6, 0), (67, 7, 0), (67, 8, 8), (67, 9, 1), (79, 4, 0), (79, 5, 0), (189, 22, 0), (191, 420, 0), (64, 4, 0), (198, 0, 0), (198, 1, 0), (64, 13, 0), (111, 5, 0), (189, 36, 0), (118, 5, 0), (189, 43, 0), (111, 8, 0), (189, 47, 0), (64, 10, 0), (65, 1, 0), (189, 2, 0), (64, 11, 0), (189, 10, 0), (60, 0, 0), (60, 1, 0)]
set_option maxRecDepth 100000 in
theorem boot_1 : (rv_boot 4000000).map (fun S => bt0.all (fun q => S.2.1 q.1 q.2.1 == nI q.2.2)) = some true := by decide +kernel
set_option maxRecDepth 100000 in
theorem boot_2 : (rv_boot 4000000).map (fun S => [0, 1, 2].all (fun j => S.2.1 215 j == iM) && (S.2.2.1 64 12 == lN 0)) = some true := by decide +kernel
theorem boot_ok : ∃ S, rv_boot 4000000 = some S ∧ S.1 = rv_sh0 ∧ rv_B S ∧ (∀ a k v, (a, k, v) ∈ bt0 → S.2.1 a k = nI v) ∧ (∀ j, j < 3 → S.2.1 215 j = iM) ∧ S.2.2.1 64 12 = lN 0 := by
  have b1 := boot_1
  have b2 := boot_2
  have b3 := rv_boot_sh
  have b4 := rv_boot_rf
  obtain ⟨x, hx⟩ : ∃ x, x = rv_boot 4000000 := ⟨_, rfl⟩
  rw [← hx] at b1 b2 b3 b4 ⊢
  cases x with
  | none => cases b1
  | some S =>
    have b1 := Option.some.inj b1
    have b2 := Option.some.inj b2
    have b3 : S.1 = rv_sh0 := Option.some.inj b3
    have b4 := Option.some.inj b4
    rw [Bool.and_eq_true] at b2
    refine ⟨S, rfl, b3, ⟨⟨[], by rw [b3, List.append_nil]⟩, fun q hq => ?_⟩, fun a k v h => ?_, fun j hj => ?_, ?_⟩
    · exact eq_of_beq (List.all_eq_true.mp b4 q hq)
    · exact eq_of_beq (List.all_eq_true.mp b1 (a, k, v) h)
    · exact eq_of_beq (List.all_eq_true.mp b2.1 j (by
        have : j = 0 ∨ j = 1 ∨ j = 2 := by omega
        rcases this with rfl | rfl | rfl <;> decide))
    · exact eq_of_beq b2.2
end
