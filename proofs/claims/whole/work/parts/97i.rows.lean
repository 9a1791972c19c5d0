/-! ROWS: the shortest row of hands is short (pure) -/
section
variable {m : Nat → Nat} {s0 : St}
theorem sh_lst (hp : okp m) {a b : Nat} (ha : a < vW m) (hb : b < vW m) : sh m a b = true ↔ lst m a = lst m b := by
  obtain ⟨-, -, h3, h4, -⟩ := hp
  have wa := (h3 a ha).1
  have wb := (h3 b hb).1
  unfold sh
  rw [Bool.or_eq_true, decide_eq_true_eq, decide_eq_true_eq]
  constructor
  · rintro (e | e)
    · rw [e]
    · obtain ⟨e2, ne⟩ := h4 a b ha hb e
      unfold lst
      rw [e, e2]
      by_cases c : b < a
      · rw [if_pos ⟨by omega, by omega⟩, if_neg (by omega)]; omega
      · rw [if_neg (by omega), if_pos ⟨by omega, by omega⟩]; omega
  · intro e
    unfold lst at e
    by_cases c1 : 0 < mt m a ∧ mt m a - 1 < a
    · rw [if_pos c1] at e
      have ea := (h4 a (mt m a - 1) ha (by omega) (by omega)).1
      by_cases c2 : 0 < mt m b ∧ mt m b - 1 < b
      · rw [if_pos c2] at e
        have eb := (h4 b (mt m b - 1) hb (by omega) (by omega)).1
        rw [← e] at eb
        exact Or.inl (by omega)
      · rw [if_neg c2] at e
        exact Or.inr (by omega)
    · rw [if_neg c1] at e
      by_cases c2 : 0 < mt m b ∧ mt m b - 1 < b
      · rw [if_pos c2] at e
        have eb := (h4 b (mt m b - 1) hb (by omega) (by omega)).1
        rw [← e] at eb
        exact Or.inr (by omega)
      · rw [if_neg c2] at e
        exact Or.inl e
/-- what a step wants, of all that stood before -/
def GK (m : Nat → Nat) (H : List Nat) (x : Nat) : Prop := ¬ 0 < de m x ∧ (∀ b z, b ≤ vN m → H[b]? = some z → sh m x z = false) ∧ ∃ y, H[0]? = some y ∧ nr m (at_ m x) (at_ m y) = true
theorem wy_0 {o : Nat} {l : List Nat} {w : Nat} : wy m o l w = 0 ↔ ¬ 0 < de m w ∧ sh m w o = false ∧ (l.any fun x => sh m w x) = false ∧ nr m (at_ m w) (at_ m o) = true := by
  unfold wy
  by_cases c1 : 0 < de m w
  · rw [if_pos c1]; exact ⟨fun z => by omega, fun z => absurd c1 z.1⟩
  · rw [if_neg c1]
    cases sh m w o
    · rw [if_neg nft]
      cases (l.any fun x => sh m w x)
      · rw [if_neg nft]
        cases nr m (at_ m w) (at_ m o)
        · rw [if_neg nft]; exact ⟨fun z => by omega, fun z => absurd z.2.2.2 nft⟩
        · rw [if_pos rfl]; exact ⟨fun _ => ⟨c1, rfl, rfl, rfl⟩, fun _ => rfl⟩
      · rw [if_pos rfl]; exact ⟨fun z => by omega, fun z => absurd z.2.2.1 (by decide)⟩
    · rw [if_pos rfl]; exact ⟨fun z => by omega, fun z => absurd z.2.1 (by decide)⟩
theorem GK_iff {y : Nat} {t : List Nat} {x : Nat} : GK m (y :: t) x ↔ wy m y (t.take (vN m)) x = 0 := by
  rw [wy_0]
  constructor
  · rintro ⟨h1, h2, y', e, h3⟩
    have e : y = y' := Option.some.inj e
    subst e
    refine ⟨h1, h2 0 y (Nat.zero_le _) rfl, Bool.eq_false_iff.mpr fun z => ?_, h3⟩
    obtain ⟨u, hu, hs⟩ := List.any_eq_true.mp z
    obtain ⟨i, hi, e⟩ := List.getElem_of_mem hu
    have g : (t.take (vN m))[i]? = some u := by rw [List.getElem?_eq_getElem hi, e]
    rw [List.getElem?_take] at g
    rw [List.length_take] at hi
    rw [if_pos (by omega)] at g
    have := h2 (i + 1) u (by omega) (by rw [List.getElem?_cons_succ]; exact g)
    rw [this] at hs
    exact nft hs
  · rintro ⟨h1, h2, h3, h4⟩
    refine ⟨h1, fun b z hb e => ?_, y, rfl, h4⟩
    cases b with
    | zero =>
      have e : y = z := Option.some.inj e
      rw [← e]; exact h2
    | succ b =>
      rw [List.getElem?_cons_succ] at e
      refine Bool.eq_false_iff.mpr fun q => ?_
      have hm : z ∈ t.take (vN m) := List.mem_of_getElem? (i := b) (by rw [List.getElem?_take, if_pos (by omega)]; exact e)
      have := List.any_eq_true.mpr ⟨z, hm, q⟩
      rw [h3] at this
      exact nft this
def sH (m : Nat → Nat) (l0 : List Nat) : List Nat → St
  | [] => (0, [])
  | y :: t => (y, (t ++ l0).take (vN m))
/-- rows, the latest ahead -/
def VH (m : Nat → Nat) (s0 : St) : List Nat → Prop
  | [] => False
  | [x] => x = s0.1
  | x :: y :: t => VH m s0 (y :: t) ∧ x < vW m ∧ GK m (y :: t ++ s0.2) x
theorem VH_gok {y : Nat} {t : List Nat} {x : Nat} : GK m (y :: t ++ s0.2) x ↔ gok m (sH m s0.2 (y :: t)) x := GK_iff
theorem VH_ne {H : List Nat} (h : VH m s0 H) : H ≠ [] := fun z => by rw [z] at h; exact h
theorem VH_up {A C : List Nat} (hC : C ≠ []) : VH m s0 (A ++ C) → VH m s0 C := by
  induction A with
  | nil => exact fun h => h
  | cons x A ih =>
    intro h
    match A, C, hC, h, ih with
    | [], c :: C', _, h, _ => exact h.1
    | a :: A', C, _, h, ih => exact ih h.1
theorem VH_x {x : Nat} {H : List Nat} (hH : H ≠ []) (h : VH m s0 (x :: H)) : VH m s0 H ∧ x < vW m ∧ GK m (H ++ s0.2) x := by
  match H, hH, h with
  | y :: t, _, h => exact h
theorem VH_mk {x : Nat} {H : List Nat} (h1 : VH m s0 H) (h2 : x < vW m) (h3 : GK m (H ++ s0.2) x) : VH m s0 (x :: H) := by
  match H, h1, h3 with
  | y :: t, h1, h3 => exact ⟨h1, h2, h3⟩
/-- no clash of what comes behind with what was -/
def NCf (m : Nat → Nat) (l0 A B : List Nat) : Prop := ∀ a b y z, a + 1 + b ≤ vN m + 1 → A.reverse[a]? = some y → (B ++ l0)[b]? = some z → sh m y z = false
theorem rev_last {x : Nat} {A : List Nat} : (x :: A).reverse[A.length]? = some x := by
  rw [List.reverse_cons, List.getElem?_append_right (by rw [List.length_reverse]; exact Nat.le_refl _), List.length_reverse, Nat.sub_self]
  rfl
theorem rev_in {x : Nat} {A : List Nat} {a : Nat} (h : a < A.length) : (x :: A).reverse[a]? = A.reverse[a]? := by
  rw [List.reverse_cons, List.getElem?_append_left (by rw [List.length_reverse]; exact h)]
theorem VH_self {C : List Nat} (hC : C ≠ []) : ∀ A, VH m s0 (A ++ C) → NCf m s0.2 A C
  | [], _ => fun a b y z _ h _ => by simp at h
  | x :: A, h => fun a b y z hab h1 h2 => by
    have ne : A ++ C ≠ [] := by simp [hC]
    obtain ⟨v1, v2, v3⟩ := VH_x ne h
    by_cases c : a < A.length
    · rw [rev_in c] at h1
      exact VH_self hC A v1 a b y z hab h1 h2
    · have hlen := (List.getElem?_eq_some_iff.mp h1).1
      rw [List.length_reverse, List.length_cons] at hlen
      have ea : a = A.length := by omega
      rw [ea, rev_last] at h1
      have e : x = y := Option.some.inj h1
      rw [← e]
      refine v3.2.1 (A.length + b) z (by omega) ?_
      rw [List.append_assoc, List.getElem?_append_right (by omega), Nat.add_sub_cancel_left]
      exact h2
theorem VH_cut {C B : List Nat} (hB : VH m s0 B) (hC : C ≠ []) (hat : ∀ c b, C[0]? = some c → B[0]? = some b → at_ m b = at_ m c) : ∀ A, VH m s0 (A ++ C) → NCf m s0.2 A B → VH m s0 (A ++ B)
  | [], _, _ => hB
  | x :: A, h, hn => by
    have ne : A ++ C ≠ [] := by simp [hC]
    obtain ⟨v1, v2, v3⟩ := VH_x ne h
    have hBn := VH_ne hB
    have ih := VH_cut hB hC hat A v1 (fun a b y z hab h1 h2 => hn a b y z hab (by
      have hlen := (List.getElem?_eq_some_iff.mp h1).1
      rw [List.length_reverse] at hlen
      rw [rev_in hlen]; exact h1) h2)
    have key : GK m (A ++ B ++ s0.2) x := by
     refine ⟨v3.1, fun b z hb e => ?_, ?_⟩
     · rw [List.append_assoc] at e
       by_cases c : b < A.length
       · rw [List.getElem?_append_left c] at e
         refine v3.2.1 b z hb ?_
         rw [List.append_assoc, List.getElem?_append_left c]; exact e
       · rw [List.getElem?_append_right (by omega)] at e
         exact hn A.length (b - A.length) x z (by omega) rev_last e
     · obtain ⟨y, e, hy⟩ := v3.2.2
       cases A with
       | cons a A' =>
         exact ⟨y, by rw [List.append_assoc] at e ⊢; exact e, hy⟩
       | nil =>
         rw [List.nil_append] at e ⊢
         match C, B, hC, hBn with
         | c :: C', b :: B', _, _ =>
           have e : c = y := Option.some.inj e
           refine ⟨b, rfl, ?_⟩
           rw [hat c b rfl rfl, e]
           exact hy
    exact VH_mk ih v2 key
/-- come to in k steps -/
def Rch (m : Nat → Nat) (s0 : St) : Nat → St → Prop
  | 0, s => s = s0
  | k + 1, s => ∃ s' w, Rch m s0 k s' ∧ w < vW m ∧ gok m s' w ∧ s = nx m s' w
theorem tk_s (y : Nat) : ∀ (R : Nat) (t : List Nat), (y :: t.take R).take R = (y :: t).take R
  | 0, _ => rfl
  | R + 1, t => by
    rw [List.take_succ_cons, List.take_succ_cons, List.take_take, Nat.min_eq_left (Nat.le_succ R)]
theorem sH_s {x y : Nat} {t : List Nat} : sH m s0.2 (x :: y :: t) = nx m (sH m s0.2 (y :: t)) x := by
  show (x, (y :: t ++ s0.2).take (vN m)) = (x, (y :: (t ++ s0.2).take (vN m)).take (vN m))
  rw [tk_s]
  rfl
theorem VH_R (hl : s0.2.length ≤ vN m) : ∀ H, VH m s0 H → Rch m s0 (H.length - 1) (sH m s0.2 H)
  | [], h => absurd h id
  | [x], h => by
    have h : x = s0.1 := h
    show (x, ([] ++ s0.2).take (vN m)) = s0
    rw [h, List.nil_append, List.take_of_length_le hl]
  | x :: y :: t, h => by
    have ih := VH_R hl (y :: t) h.1
    rw [sH_s]
    exact ⟨sH m s0.2 (y :: t), x, ih, h.2.1, VH_gok.mp h.2.2, rfl⟩
theorem R_VH (hl : s0.2.length ≤ vN m) : ∀ k s, Rch m s0 k s → ∃ H, VH m s0 H ∧ H.length = k + 1 ∧ sH m s0.2 H = s
  | 0, s, h => by
    have h : s = s0 := h
    refine ⟨[s0.1], rfl, rfl, ?_⟩
    show (s0.1, ([] ++ s0.2).take (vN m)) = s
    rw [h, List.nil_append, List.take_of_length_le hl]
  | k + 1, s, h => by
    obtain ⟨s', w, h1, h2, h3, h4⟩ := h
    obtain ⟨H, v1, v2, v3⟩ := R_VH hl k s' h1
    match H, v1, v2, v3 with
    | y :: t, v1, v2, v3 =>
      rw [← v3] at h3 h4
      exact ⟨w :: y :: t, ⟨v1, h2, VH_gok.mpr h3⟩, by rw [List.length_cons, v2], by rw [sH_s]; exact h4.symm⟩
theorem VH_lt (h0 : s0.1 < vW m) : ∀ H, VH m s0 H → ∀ x ∈ H, x < vW m
  | [], h => absurd h id
  | [x], h => fun z hz => by
    have h : x = s0.1 := h
    rw [List.mem_singleton.mp hz, h]; exact h0
  | x :: y :: t, h => fun z hz => by
    rcases List.mem_cons.mp hz with e | hz
    · rw [e]; exact h.2.1
    · exact VH_lt h0 (y :: t) h.1 z hz
/-! clashes as products -/
def m2 (f g : Nat → Int) (b : Nat) : Nat → Int := fun k => f (k / b) * g (k % b)
theorem iS_m2 (c1 q1 c2 q2 : Nat → Int) (a b : Nat) : iS (fun k => m2 c1 c2 b k * m2 q1 q2 b k) (a * b) = iS (fun k => c1 k * q1 k) a * iS (fun k => c2 k * q2 k) b := by
  rw [← iS_two (fun k => c1 k * q1 k) (fun k => c2 k * q2 k) b a]
  refine iS_cong fun k _ => ?_
  show c1 (k / b) * c2 (k % b) * (q1 (k / b) * q2 (k % b)) = c1 (k / b) * q1 (k / b) * (c2 (k % b) * q2 (k % b))
  rw [Int.mul_assoc, Int.mul_assoc]
  congr 1
  rw [← Int.mul_assoc, ← Int.mul_assoc, Int.mul_comm (c2 (k % b))]
def Yb (m : Nat → Nat) (A : List Nat) (b : Nat) : List Int := (A.reverse.take (vN m + 1 - b)).map (fun y => (lst m y : Int))
def Xb (m : Nat → Nat) (B : List Nat) (b : Nat) : Int := match B[b]? with
  | some z => (lst m z : Int)
  | none => -1
theorem Yb_len (hN : vN m ≤ 3) (A : List Nat) {b : Nat} (hb : b < 4) : (Yb m A b).length < 5 - b := by
  unfold Yb
  rw [List.length_map, List.length_take]
  omega
def cF (m : Nat → Nat) (A : List Nat) : Nat → Int := m2 (m2 (m2 (pl (Yb m A 0)) (pl (Yb m A 1)) 4) (pl (Yb m A 2)) 3) (pl (Yb m A 3)) 2
def qF (m : Nat → Nat) (B : List Nat) : Nat → Int := m2 (m2 (m2 (pw (Xb m B 0)) (pw (Xb m B 1)) 4) (pw (Xb m B 2)) 3) (pw (Xb m B 3)) 2
theorem cq_eq (hN : vN m ≤ 3) (A B : List Nat) : iS (fun k => cF m A k * qF m B k) 120 = pr (Xb m B 0) (Yb m A 0) * pr (Xb m B 1) (Yb m A 1) * pr (Xb m B 2) (Yb m A 2) * pr (Xb m B 3) (Yb m A 3) := by
  rw [cF, qF, show 120 = 60 * 2 from rfl, iS_m2, show 60 = 20 * 3 from rfl, iS_m2, show 20 = 5 * 4 from rfl, iS_m2]
  rw [pl_ev _ _ 5 (Yb_len hN A (by decide)), pl_ev _ _ 4 (Yb_len hN A (b := 1) (by decide)), pl_ev _ _ 3 (Yb_len hN A (b := 2) (by decide)), pl_ev _ _ 2 (Yb_len hN A (b := 3) (by decide))]
theorem Xb_in {A B : List Nat} {b : Nat} (h : Xb m B b ∈ Yb m A b) : ∃ a y z, a + 1 + b ≤ vN m + 1 ∧ A.reverse[a]? = some y ∧ B[b]? = some z ∧ lst m y = lst m z := by
  unfold Yb at h
  obtain ⟨y, hy, e⟩ := List.mem_map.mp h
  unfold Xb at e
  obtain ⟨a, ha, ea⟩ := List.getElem_of_mem hy
  have g : (A.reverse.take (vN m + 1 - b))[a]? = some y := by rw [List.getElem?_eq_getElem ha, ea]
  rw [List.getElem?_take] at g
  rw [List.length_take] at ha
  rw [if_pos (by omega)] at g
  cases hb : B[b]? with
  | none => rw [hb] at e; have e : (lst m y : Int) = -1 := e; omega
  | some z =>
    rw [hb] at e
    have e : (lst m y : Int) = (lst m z : Int) := e
    exact ⟨a, y, z, by omega, g, rfl, by omega⟩
theorem Xb_of {A B : List Nat} {a b y z : Nat} (h1 : a + 1 + b ≤ vN m + 1) (h2 : A.reverse[a]? = some y) (h3 : B[b]? = some z) (h4 : lst m y = lst m z) : Xb m B b ∈ Yb m A b := by
  unfold Xb Yb
  rw [h3]
  refine List.mem_map.mpr ⟨y, List.mem_of_getElem? (i := a) (by rw [List.getElem?_take, if_pos (by omega)]; exact h2), ?_⟩
  show (lst m y : Int) = (lst m z : Int)
  rw [h4]
theorem cq_no (hp : okp m) (hN : vN m ≤ 3) {A B : List Nat} (hA : ∀ x ∈ A, x < vW m) (hB : ∀ x ∈ B, x < vW m) (h : ∀ a b y z, a + 1 + b ≤ vN m + 1 → A.reverse[a]? = some y → B[b]? = some z → sh m y z = false) : iS (fun k => cF m A k * qF m B k) 120 ≠ 0 := by
  have key : ∀ b, pr (Xb m B b) (Yb m A b) ≠ 0 := fun b => pr_ne fun z => by
    obtain ⟨a, y, w, h1, h2, h3, h4⟩ := Xb_in z
    have := h a b y w h1 h2 h3
    rw [(sh_lst hp (hA y (List.mem_reverse.mp (List.mem_of_getElem? h2))) (hB w (List.mem_of_getElem? h3))).mpr h4] at this
    exact absurd this (by decide)
  rw [cq_eq hN]
  exact Int.mul_ne_zero (Int.mul_ne_zero (Int.mul_ne_zero (key 0) (key 1)) (key 2)) (key 3)
theorem cq_yes (hp : okp m) (hN : vN m ≤ 3) {A B : List Nat} (hA : ∀ x ∈ A, x < vW m) (hB : ∀ x ∈ B, x < vW m) (h : ¬ ∀ a b y z, a + 1 + b ≤ vN m + 1 → A.reverse[a]? = some y → B[b]? = some z → sh m y z = false) : iS (fun k => cF m A k * qF m B k) 120 = 0 := by
  have : ∃ b, b < 4 ∧ Xb m B b ∈ Yb m A b := by
    refine Classical.byContradiction fun q => h fun a b y z h1 h2 h3 => Bool.eq_false_iff.mpr fun s => q ⟨b, by omega, Xb_of h1 h2 h3 ?_⟩
    exact (sh_lst hp (hA y (List.mem_reverse.mp (List.mem_of_getElem? h2))) (hB z (List.mem_of_getElem? h3))).mp s
  obtain ⟨b, hb, hx⟩ := this
  have z := pr_0 hx
  rw [cq_eq hN]
  have h4 : b = 0 ∨ b = 1 ∨ b = 2 ∨ b = 3 := by omega
  rcases h4 with rfl | rfl | rfl | rfl
  · rw [z, Int.zero_mul, Int.zero_mul, Int.zero_mul]
  · rw [z, Int.mul_zero, Int.zero_mul, Int.zero_mul]
  · rw [z, Int.mul_zero, Int.zero_mul]
  · rw [z, Int.mul_zero]
theorem ct4 (u : Nat → Nat) : ∀ N, (∀ j, j < N → u j < 4) → fb_ct (fun j => decide (u j = 0)) N + fb_ct (fun j => decide (u j = 1)) N + fb_ct (fun j => decide (u j = 2)) N + fb_ct (fun j => decide (u j = 3)) N = N
  | 0, _ => rfl
  | N + 1, h => by
    have ih := ct4 u N (fun j hj => h j (by omega))
    have hN := h N (by omega)
    rw [ct_s, ct_s, ct_s, ct_s]
    have h4 : u N = 0 ∨ u N = 1 ∨ u N = 2 ∨ u N = 3 := by omega
    rcases h4 with e | e | e | e <;> rw [e] <;> simp <;> omega
/-- where nothing shorter leads to w, it is short -/
theorem short (hk : okm m) (h0 : okS m s0) (hl : s0.2.length ≤ vN m) {K : Nat} {s : St} {w : Nat} (hw : w < vW m) (hr : Rch m s0 K s) (hg : gok m s w) (hmin : ∀ k s', Rch m s0 k s' → gok m s' w → K ≤ k) : K + 1 ≤ 480 := by
  obtain ⟨hp, hc, hd⟩ := id hk
  have hN := hc.2.1
  obtain ⟨H, v1, v2, v3⟩ := R_VH hl K s hr
  have hne := VH_ne v1
  have vF : VH m s0 (w :: H) := by
    rw [← v3] at hg
    match H, hne, v1, hg with
    | y :: t, _, v1, hg => exact ⟨v1, hw, VH_gok.mpr hg⟩
  obtain ⟨F, eF⟩ : ∃ F, F = w :: H := ⟨_, rfl⟩
  rw [← eF] at vF
  have lF : F.length = K + 2 := by rw [eF, List.length_cons, v2]
  have hlt := VH_lt h0.1 F vF
  have sp : ∀ j, F.take (K + 1 - j) ++ F.drop (K + 1 - j) = F := fun j => List.take_append_drop _ F
  have lD : ∀ j, j ≤ K → (F.drop (K + 1 - j)).length = j + 1 := fun j hj => by rw [List.length_drop]; omega
  have nD : ∀ j, j ≤ K → F.drop (K + 1 - j) ≠ [] := fun j hj z => by
    have := lD j hj
    rw [z] at this
    simp at this
  have mD : ∀ j, ∀ x ∈ F.drop (K + 1 - j) ++ s0.2, x < vW m := fun j x hx => by
    rcases List.mem_append.mp hx with h | h
    · exact hlt x (List.mem_of_mem_drop h)
    · exact h0.2.2 x h
  have mA : ∀ j, ∀ x ∈ F.take (K + 1 - j), x < vW m := fun j x hx => hlt x (List.mem_of_mem_take hx)
  have vD : ∀ j, j ≤ K → VH m s0 (F.drop (K + 1 - j)) := fun j hj => VH_up (A := F.take (K + 1 - j)) (nD j hj) (by rw [sp]; exact vF)
  have each : ∀ u, fb_ct (fun j => decide (at_ m ((F.drop (K + 1 - j)).getD 0 0) = u)) (K + 1) ≤ 120 := fun u => by
    refine tri (K + 1) 120 _ (fun j => cF m (F.take (K + 1 - j))) (fun i => qF m (F.drop (K + 1 - i) ++ s0.2)) (fun j hj _ => ?_) (fun i j hij hj hi' hj' => ?_)
    · exact cq_no hp hN (mA j) (mD j) (VH_self (nD j (by omega)) (F.take (K + 1 - j)) (by rw [sp]; exact vF))
    · refine cq_yes hp hN (mA j) (mD i) fun hn => ?_
      have hi' := of_decide_eq_true hi'
      have hj' := of_decide_eq_true hj'
      have cut := VH_cut (C := F.drop (K + 1 - j)) (B := F.drop (K + 1 - i)) (vD i (by omega)) (nD j (by omega)) (fun c b e1 e2 => by
        rw [List.getD_eq_getElem?_getD, e2] at hi'
        rw [List.getD_eq_getElem?_getD, e1] at hj'
        exact hi'.trans hj'.symm) (F.take (K + 1 - j)) (by rw [sp]; exact vF) hn
      have eT : F.take (K + 1 - j) = w :: H.take (K - j) := by
        rw [eF, show K + 1 - j = (K - j) + 1 by omega, List.take_succ_cons]
      rw [eT, List.cons_append] at cut
      have ne2 : H.take (K - j) ++ F.drop (K + 1 - i) ≠ [] := by simp [nD i (by omega)]
      obtain ⟨x1, x2, x3⟩ := VH_x ne2 cut
      have rr := VH_R hl _ x1
      have len : (H.take (K - j) ++ F.drop (K + 1 - i)).length - 1 = K - j + i := by
        rw [List.length_append, List.length_take, lD i (by omega)]
        omega
      rw [len] at rr
      obtain ⟨N, eN⟩ : ∃ N, N = H.take (K - j) ++ F.drop (K + 1 - i) := ⟨_, rfl⟩
      rw [← eN] at x1 x3 rr ne2
      have gk : gok m (sH m s0.2 N) w := by
        match N, ne2, x3 with
        | y :: t, _, x3 => exact VH_gok.mp x3
      have := hmin (K - j + i) _ rr gk
      omega
  have hu : ∀ j, j < K + 1 → at_ m ((F.drop (K + 1 - j)).getD 0 0) < 4 := fun j hj => by
    refine hp.2.1 _ ?_
    have ne := nD j (by omega)
    have h1 := mD j
    match hF : F.drop (K + 1 - j), ne with
    | y :: t, _ =>
      rw [hF] at h1
      exact h1 y (by simp)
  have := ct4 (fun j => at_ m ((F.drop (K + 1 - j)).getD 0 0)) (K + 1) hu
  have e0 := each 0
  have e1 := each 1
  have e2 := each 2
  have e3 := each 3
  omega
end
