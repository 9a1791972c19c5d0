/-! TRIANGLES: rows that meet earlier columns in 0 and their own not are no more than the places they have (pure) -/
section
def iS (f : Nat → Int) : Nat → Int
  | 0 => 0
  | n + 1 => iS f n + f n
theorem iS_cong {f g : Nat → Int} : ∀ {n : Nat}, (∀ k, k < n → f k = g k) → iS f n = iS g n
  | 0, _ => rfl
  | n + 1, h => by rw [iS, iS, iS_cong (fun k hk => h k (by omega)), h n (by omega)]
theorem iS_mul (a : Int) (f : Nat → Int) : ∀ n, iS (fun k => a * f k) n = a * iS f n
  | 0 => (Int.mul_zero a).symm
  | n + 1 => by rw [iS, iS, iS_mul a f n, Int.mul_add]
theorem iS_mulr (a : Int) (f : Nat → Int) (n : Nat) : iS (fun k => f k * a) n = iS f n * a := by
  rw [Int.mul_comm, ← iS_mul]
  exact iS_cong fun k _ => Int.mul_comm _ _
theorem iS_sub (f g : Nat → Int) : ∀ n, iS (fun k => f k - g k) n = iS f n - iS g n
  | 0 => rfl
  | n + 1 => by rw [iS, iS, iS, iS_sub f g n]; omega
theorem iS_add (f g : Nat → Int) : ∀ n, iS (fun k => f k + g k) n = iS f n + iS g n
  | 0 => rfl
  | n + 1 => by rw [iS, iS, iS, iS_add f g n]; omega
theorem iS_0 {f : Nat → Int} : ∀ {n : Nat}, (∀ k, k < n → f k = 0) → iS f n = 0
  | 0, _ => rfl
  | n + 1, h => by rw [iS, iS_0 (fun k hk => h k (by omega)), h n (by omega)]; rfl
theorem iS_ne {f : Nat → Int} : ∀ {n : Nat}, iS f n ≠ 0 → ∃ k, k < n ∧ f k ≠ 0
  | 0, h => absurd rfl h
  | n + 1, h => by
    by_cases c : f n = 0
    · rw [iS, c, Int.add_zero] at h
      obtain ⟨k, h1, h2⟩ := iS_ne h
      exact ⟨k, by omega, h2⟩
    · exact ⟨n, by omega, c⟩
theorem iS_set (f : Nat → Int) (k0 : Nat) (x : Int) : ∀ n, k0 < n → iS (fun k => if k = k0 then x else f k) n = iS f n - f k0 + x
  | 0, h => absurd h (Nat.not_lt_zero _)
  | n + 1, h => by
    rw [iS, iS]
    by_cases c : k0 = n
    · subst c
      rw [if_pos rfl, iS_cong (g := f) (fun k hk => if_neg (by omega))]
      omega
    · rw [if_neg (fun z => c z.symm), iS_set f k0 x n (by omega)]
      omega
/-- one place taken out -/
theorem iS_out (f : Nat → Int) {k0 d : Nat} (h : k0 < d + 1) : iS f (d + 1) = iS (fun k => if k = k0 then f d else f k) d + f k0 := by
  rw [iS]
  by_cases c : k0 = d
  · rw [c, iS_cong (g := f) (fun k hk => if_neg (by omega))]
  · rw [iS_set f k0 (f d) d (by omega)]; omega
theorem tri : ∀ (N d : Nat) (p : Nat → Bool) (c q : Nat → Nat → Int), (∀ j, j < N → p j = true → iS (fun k => c j k * q j k) d ≠ 0) → (∀ i j, i < j → j < N → p i = true → p j = true → iS (fun k => c j k * q i k) d = 0) → fb_ct p N ≤ d
  | 0, d, p, c, q, _, _ => Nat.zero_le d
  | N + 1, d, p, c, q, h1, h2 => by
    rw [ct_s]
    by_cases hp : p N = true
    · rw [if_pos hp]
      obtain ⟨k0, hk0, hne⟩ := iS_ne (h1 N (by omega) hp)
      obtain ⟨d, rfl⟩ : ∃ d', d = d' + 1 := ⟨d - 1, by omega⟩
      have hc : c N k0 ≠ 0 := fun z => hne (by rw [z, Int.zero_mul])
      have key : ∀ i j, i < N → p i = true → iS (fun k => (c N k0 * c j (if k = k0 then d else k) - c j k0 * c N (if k = k0 then d else k)) * q i (if k = k0 then d else k)) d = c N k0 * iS (fun k => c j k * q i k) (d + 1) := fun i j hi hpi => by
        have z := h2 i N hi (by omega) hpi hp
        rw [iS_out _ hk0] at z
        rw [iS_out _ hk0]
        have e1 : iS (fun k => if k = k0 then c N d * q i d else c N k * q i k) d = iS (fun k => c N (if k = k0 then d else k) * q i (if k = k0 then d else k)) d := iS_cong fun k _ => by
          by_cases e : k = k0
          · rw [if_pos e, if_pos e]
          · rw [if_neg e, if_neg e]
        have e2 : iS (fun k => if k = k0 then c j d * q i d else c j k * q i k) d = iS (fun k => c j (if k = k0 then d else k) * q i (if k = k0 then d else k)) d := iS_cong fun k _ => by
          by_cases e : k = k0
          · rw [if_pos e, if_pos e]
          · rw [if_neg e, if_neg e]
        rw [e1] at z
        rw [e2]
        have e3 : iS (fun k => (c N k0 * c j (if k = k0 then d else k) - c j k0 * c N (if k = k0 then d else k)) * q i (if k = k0 then d else k)) d = c N k0 * iS (fun k => c j (if k = k0 then d else k) * q i (if k = k0 then d else k)) d - c j k0 * iS (fun k => c N (if k = k0 then d else k) * q i (if k = k0 then d else k)) d := by
          rw [← iS_mul, ← iS_mul, ← iS_sub]
          exact iS_cong fun k _ => by
            rw [Int.sub_mul, Int.mul_assoc, Int.mul_assoc]
        rw [e3]
        obtain ⟨A, eA⟩ : ∃ A, A = iS (fun k => c j (if k = k0 then d else k) * q i (if k = k0 then d else k)) d := ⟨_, rfl⟩
        obtain ⟨B, eB⟩ : ∃ B, B = iS (fun k => c N (if k = k0 then d else k) * q i (if k = k0 then d else k)) d := ⟨_, rfl⟩
        rw [← eB] at z
        rw [← eA, ← eB]
        have eb : B = -(c N k0 * q i k0) := by omega
        rw [eb, Int.mul_add, Int.mul_neg, Int.sub_neg]
        congr 1
        rw [← Int.mul_assoc, ← Int.mul_assoc, Int.mul_comm (c j k0) (c N k0)]
      have ih := tri N d p (fun j k => c N k0 * c j (if k = k0 then d else k) - c j k0 * c N (if k = k0 then d else k)) (fun i k => q i (if k = k0 then d else k)) (fun j hj hpj => by
        have h := key j j hj hpj
        rw [h]
        exact Int.mul_ne_zero hc (h1 j (by omega) hpj)) (fun i j hij hj hpi hpj => by
        have h := key i j (by omega) hpi
        rw [h, h2 i j hij (by omega) hpi hpj, Int.mul_zero])
      omega
    · rw [if_neg hp]
      exact tri N d p c q (fun j hj => h1 j (by omega)) (fun i j hij hj => h2 i j hij (by omega))
/-! products of x less some numbers -/
def pr (x : Int) : List Int → Int
  | [] => 1
  | y :: t => (x - y) * pr x t
def pl (ys : List Int) : Nat → Int := match ys with
  | [] => fun k => if k = 0 then 1 else 0
  | y :: t => fun k => (if k = 0 then 0 else pl t (k - 1)) - y * pl t k
def pw (x : Int) : Nat → Int
  | 0 => 1
  | n + 1 => x * pw x n
theorem pl_big : ∀ (ys : List Int) (k : Nat), ys.length < k → pl ys k = 0
  | [], k, h => by
    have h : 0 < k := h
    show (if k = 0 then (1 : Int) else 0) = 0
    rw [if_neg (by omega)]
  | y :: t, k, h => by
    rw [List.length_cons] at h
    show (if k = 0 then 0 else pl t (k - 1)) - y * pl t k = 0
    rw [if_neg (by omega), pl_big t (k - 1) (by omega), pl_big t k (by omega), Int.mul_zero]
    rfl
theorem pl_ev (x : Int) : ∀ (ys : List Int) (n : Nat), ys.length < n → iS (fun k => pl ys k * pw x k) n = pr x ys
  | [], n, h => by
    obtain ⟨n, rfl⟩ : ∃ n', n = n' + 1 := ⟨n - 1, by have : 0 < n := h; omega⟩
    rw [iS_out _ (show 0 < n + 1 by omega), iS_0]
    · rfl
    · intro k hk
      by_cases c : k = 0
      · rw [if_pos c]
        show (if n = 0 then (1 : Int) else 0) * pw x n = 0
        rw [if_neg (by omega), Int.zero_mul]
      · rw [if_neg c]
        show (if k = 0 then (1 : Int) else 0) * pw x k = 0
        rw [if_neg c, Int.zero_mul]
  | y :: t, n, h => by
    rw [List.length_cons] at h
    obtain ⟨n, rfl⟩ : ∃ n', n = n' + 1 := ⟨n - 1, by omega⟩
    have i1 := pl_ev x t n (by omega)
    have i2 := pl_ev x t (n + 1) (by omega)
    rw [pr, Int.sub_mul]
    have e : iS (fun k => pl (y :: t) k * pw x k) (n + 1) = iS (fun k => (if k = 0 then 0 else pl t (k - 1)) * pw x k) (n + 1) - y * iS (fun k => pl t k * pw x k) (n + 1) := by
      rw [← iS_mul, ← iS_sub]
      refine iS_cong fun k _ => ?_
      show ((if k = 0 then 0 else pl t (k - 1)) - y * pl t k) * pw x k = _
      rw [Int.sub_mul, Int.mul_assoc]
    rw [e, i2]
    congr 1
    have sh : ∀ j, iS (fun k => (if k = 0 then 0 else pl t (k - 1)) * pw x k) (j + 1) = x * iS (fun k => pl t k * pw x k) j := fun j => by
      induction j with
      | zero =>
        show 0 + (if 0 = 0 then (0 : Int) else pl t (0 - 1)) * pw x 0 = x * 0
        rw [if_pos rfl]; simp
      | succ j ih =>
        rw [iS, ih, iS, Int.mul_add]
        congr 1
        show (if j + 1 = 0 then 0 else pl t (j + 1 - 1)) * (x * pw x j) = x * (pl t j * pw x j)
        rw [if_neg (by omega), Nat.add_sub_cancel, ← Int.mul_assoc, ← Int.mul_assoc, Int.mul_comm x]
    rw [sh n, i1]
theorem pr_0 {x : Int} : ∀ {ys : List Int}, x ∈ ys → pr x ys = 0
  | [], h => absurd h List.not_mem_nil
  | y :: t, h => by
    rw [pr]
    rcases List.mem_cons.mp h with e | h
    · rw [e, Int.sub_self, Int.zero_mul]
    · rw [pr_0 h, Int.mul_zero]
theorem pr_ne {x : Int} : ∀ {ys : List Int}, ¬ x ∈ ys → pr x ys ≠ 0
  | [], _ => by rw [pr]; decide
  | y :: t, h => by
    rw [pr]
    refine Int.mul_ne_zero (fun z => h ?_) (pr_ne fun z => h (List.mem_cons_of_mem _ z))
    have : x = y := by omega
    rw [this]
    exact List.mem_cons_self
/-- sums of products, multiplied -/
theorem iS_two (f g : Nat → Int) (b : Nat) : ∀ a, iS (fun k => f (k / b) * g (k % b)) (a * b) = iS f a * iS g b
  | 0 => by rw [Nat.zero_mul]; exact (Int.zero_mul _).symm
  | a + 1 => by
    by_cases hb : b = 0
    · rw [hb, Nat.mul_zero]; exact (Int.mul_zero _).symm
    · have sp : ∀ (h : Nat → Int) n k, iS h (n + k) = iS h n + iS (fun i => h (n + i)) k := fun h n k => by
        induction k with
        | zero => exact (Int.add_zero _).symm
        | succ k ih => rw [← Nat.add_assoc, iS, ih, iS]; omega
      rw [Nat.add_mul, Nat.one_mul, sp, iS_two f g b a, iS, Int.add_mul]
      congr 1
      rw [← iS_mul]
      refine iS_cong fun k hk => ?_
      have e1 : (a * b + k) / b = a := by
        rw [Nat.mul_comm, Nat.mul_add_div (by omega), Nat.div_eq_of_lt hk, Nat.add_zero]
      have e2 : (a * b + k) % b = k := by
        rw [Nat.mul_comm, Nat.mul_add_mod, Nat.mod_eq_of_lt hk]
      rw [e1, e2]
end
