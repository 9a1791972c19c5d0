/-! NUMBERS in one form: literals as nI, lN (printed by gen/nums.py) -/
theorem z0 : (0 : Int32) = nI 0 := by rw [fa_lit]
theorem z1 : (1 : Int32) = nI 1 := by rw [fa_lit]
theorem z2 : (2 : Int32) = nI 2 := by rw [fa_lit]
theorem z3 : (3 : Int32) = nI 3 := by rw [fa_lit]
theorem z4 : (4 : Int32) = nI 4 := by rw [fa_lit]
theorem z5 : (5 : Int32) = nI 5 := by rw [fa_lit]
theorem z6 : (6 : Int32) = nI 6 := by rw [fa_lit]
theorem z7 : (7 : Int32) = nI 7 := by rw [fa_lit]
theorem z8 : (8 : Int32) = nI 8 := by rw [fa_lit]
theorem z9 : (9 : Int32) = nI 9 := by rw [fa_lit]
theorem z10 : (10 : Int32) = nI 10 := by rw [fa_lit]
theorem z11 : (11 : Int32) = nI 11 := by rw [fa_lit]
theorem z12 : (12 : Int32) = nI 12 := by rw [fa_lit]
theorem z13 : (13 : Int32) = nI 13 := by rw [fa_lit]
theorem z15 : (15 : Int32) = nI 15 := by rw [fa_lit]
theorem z16 : (16 : Int32) = nI 16 := by rw [fa_lit]
theorem z17 : (17 : Int32) = nI 17 := by rw [fa_lit]
theorem z18 : (18 : Int32) = nI 18 := by rw [fa_lit]
theorem z20 : (20 : Int32) = nI 20 := by rw [fa_lit]
theorem z21 : (21 : Int32) = nI 21 := by rw [fa_lit]
theorem z23 : (23 : Int32) = nI 23 := by rw [fa_lit]
theorem z24 : (24 : Int32) = nI 24 := by rw [fa_lit]
theorem z25 : (25 : Int32) = nI 25 := by rw [fa_lit]
theorem z31 : (31 : Int32) = nI 31 := by rw [fa_lit]
theorem z32 : (32 : Int32) = nI 32 := by rw [fa_lit]
theorem z39 : (39 : Int32) = nI 39 := by rw [fa_lit]
theorem z40 : (40 : Int32) = nI 40 := by rw [fa_lit]
theorem z41 : (41 : Int32) = nI 41 := by rw [fa_lit]
theorem z46 : (46 : Int32) = nI 46 := by rw [fa_lit]
theorem z48 : (48 : Int32) = nI 48 := by rw [fa_lit]
theorem z50 : (50 : Int32) = nI 50 := by rw [fa_lit]
theorem z57 : (57 : Int32) = nI 57 := by rw [fa_lit]
theorem z59 : (59 : Int32) = nI 59 := by rw [fa_lit]
theorem z60 : (60 : Int32) = nI 60 := by rw [fa_lit]
theorem z61 : (61 : Int32) = nI 61 := by rw [fa_lit]
theorem z62 : (62 : Int32) = nI 62 := by rw [fa_lit]
theorem z63 : (63 : Int32) = nI 63 := by rw [fa_lit]
theorem z64 : (64 : Int32) = nI 64 := by rw [fa_lit]
theorem z97 : (97 : Int32) = nI 97 := by rw [fa_lit]
theorem z98 : (98 : Int32) = nI 98 := by rw [fa_lit]
theorem z99 : (99 : Int32) = nI 99 := by rw [fa_lit]
theorem z100 : (100 : Int32) = nI 100 := by rw [fa_lit]
theorem z101 : (101 : Int32) = nI 101 := by rw [fa_lit]
theorem z102 : (102 : Int32) = nI 102 := by rw [fa_lit]
theorem z103 : (103 : Int32) = nI 103 := by rw [fa_lit]
theorem z104 : (104 : Int32) = nI 104 := by rw [fa_lit]
theorem z105 : (105 : Int32) = nI 105 := by rw [fa_lit]
theorem z106 : (106 : Int32) = nI 106 := by rw [fa_lit]
theorem z107 : (107 : Int32) = nI 107 := by rw [fa_lit]
theorem z108 : (108 : Int32) = nI 108 := by rw [fa_lit]
theorem z109 : (109 : Int32) = nI 109 := by rw [fa_lit]
theorem z110 : (110 : Int32) = nI 110 := by rw [fa_lit]
theorem z111 : (111 : Int32) = nI 111 := by rw [fa_lit]
theorem z112 : (112 : Int32) = nI 112 := by rw [fa_lit]
theorem z113 : (113 : Int32) = nI 113 := by rw [fa_lit]
theorem z114 : (114 : Int32) = nI 114 := by rw [fa_lit]
theorem z115 : (115 : Int32) = nI 115 := by rw [fa_lit]
theorem z116 : (116 : Int32) = nI 116 := by rw [fa_lit]
theorem z117 : (117 : Int32) = nI 117 := by rw [fa_lit]
theorem z118 : (118 : Int32) = nI 118 := by rw [fa_lit]
theorem z119 : (119 : Int32) = nI 119 := by rw [fa_lit]
theorem z120 : (120 : Int32) = nI 120 := by rw [fa_lit]
theorem z121 : (121 : Int32) = nI 121 := by rw [fa_lit]
theorem z122 : (122 : Int32) = nI 122 := by rw [fa_lit]
theorem z128 : (128 : Int32) = nI 128 := by rw [fa_lit]
theorem z132 : (132 : Int32) = nI 132 := by rw [fa_lit]
theorem z200 : (200 : Int32) = nI 200 := by rw [fa_lit]
theorem z240 : (240 : Int32) = nI 240 := by rw [fa_lit]
theorem z255 : (255 : Int32) = nI 255 := by rw [fa_lit]
theorem z372 : (372 : Int32) = nI 372 := by rw [fa_lit]
theorem z390625 : (390625 : Int32) = nI 390625 := by rw [fa_lit]
theorem z400 : (400 : Int32) = nI 400 := by rw [fa_lit]
theorem z420 : (420 : Int32) = nI 420 := by rw [fa_lit]
theorem z421 : (421 : Int32) = nI 421 := by rw [fa_lit]
theorem z422 : (422 : Int32) = nI 422 := by rw [fa_lit]
theorem z662 : (662 : Int32) = nI 662 := by rw [fa_lit]
theorem z900 : (900 : Int32) = nI 900 := by rw [fa_lit]
theorem z940 : (940 : Int32) = nI 940 := by rw [fa_lit]
theorem z999 : (999 : Int32) = nI 999 := by rw [fa_lit]
theorem z1000 : (1000 : Int32) = nI 1000 := by rw [fa_lit]
theorem z1024 : (1024 : Int32) = nI 1024 := by rw [fa_lit]
theorem z2000 : (2000 : Int32) = nI 2000 := by rw [fa_lit]
theorem z5860 : (5860 : Int32) = nI 5860 := by rw [fa_lit]
theorem z10000 : (10000 : Int32) = nI 10000 := by rw [fa_lit]
theorem z12345 : (12345 : Int32) = nI 12345 := by rw [fa_lit]
theorem z15625 : (15625 : Int32) = nI 15625 := by rw [fa_lit]
theorem z266240 : (266240 : Int32) = nI 266240 := by rw [fa_lit]
theorem z1048575 : (1048575 : Int32) = nI 1048575 := by rw [fa_lit]
theorem z1064960 : (1064960 : Int32) = nI 1064960 := by rw [fa_lit]
theorem z1103515245 : (1103515245 : Int32) = nI 1103515245 := by rw [fa_lit]
theorem y0 : (0 : Int64) = lN 0 := by rw [fa_litL]
theorem y1 : (1 : Int64) = lN 1 := by rw [fa_litL]
theorem y27 : (27 : Int64) = lN 27 := by rw [fa_litL]
theorem y63 : (63 : Int64) = lN 63 := by rw [fa_litL]
theorem y96 : (96 : Int64) = lN 96 := by rw [fa_litL]
theorem y1099511627776 : (1099511627776 : Int64) = lN 1099511627776 := by rw [fa_litL]
theorem y69269232549888 : (69269232549888 : Int64) = lN 69269232549888 := by rw [fa_litL]
theorem n_ush {x j : Nat} (hx : x < 4294967296) (hj : j < 32) : ((nI x).toUInt32 >>> ((nI j).toUInt32 &&& Int32.toUInt32 (nI 31))).toInt32 = nI (x / 2 ^ j) := z_ush hx hj
theorem n_bit0 {x j : Nat} (hx : x < 4294967296) (hj : j < 32) : (((nI x).toUInt32 >>> ((nI j).toUInt32 &&& Int32.toUInt32 (nI 31))).toInt32 &&& nI 1 = nI 0) = (x.testBit j = false) := propext (z_bit0 hx hj)
theorem n_bit1 {x j : Nat} (hx : x < 2147483648) (hj : j < 32) : ((nI x >>> (nI j &&& nI 31)) &&& nI 1 = nI 1) = (x.testBit j = true) := propext (z_bit1 hx hj)
theorem n_sbit0 {x j : Nat} (hx : x < 2147483648) (hj : j < 32) : ((nI x >>> (nI j &&& nI 31)) &&& nI 1 = nI 0) = (x.testBit j = false) := by
  rw [eq_iff_iff]
  show ((nI x >>> (nI j &&& 31)) &&& nI (2 ^ 0) = 0) ↔ _
  rw [z_sshr hx hj, fa_bit (by decide), Nat.testBit_div_two_pow, Nat.zero_add]
theorem n_shl {j : Nat} (hj : j < 32) : nI 1 <<< (nI j &&& nI 31) = nI (2 ^ j) := z_shl hj
theorem n_and1 (x : Nat) : nI x &&& nI 1 = nI (x % 2) := fa_mask x 1
theorem n_and31 (x : Nat) : nI x &&& nI 31 = nI (x % 32) := fa_mask x 5
theorem n_and255 (x : Nat) : nI x &&& nI 255 = nI (x % 256) := fa_mask x 8
theorem n_le {a b : Nat} (ha : a < 2147483648) (hb : b < 2147483648) : (nI a ≤ nI b) = (a ≤ b) := propext (nI_leI ha hb)
theorem n_lt {a b : Nat} (ha : a < 2147483648) (hb : b < 2147483648) : (nI a < nI b) = (a < b) := propext (nI_ltI ha hb)
theorem n_eq {a b : Nat} (ha : a < 2147483648) (hb : b < 2147483648) : (nI a = nI b) = (a = b) := propext (nI_eq ha hb)
theorem n_l {a : Nat} (h : a < 2147483648) : (nI a).toInt64 = lN a := nI_l h
theorem m_shr {x k : Nat} (hx : x < 18446744073709551616) (hk : k < 64) : ((lN x).toUInt64 >>> ((nI k).toInt64.toUInt64 &&& Int64.toUInt64 (lN 63))).toInt64 = lN (x / 2 ^ k) := wb_shr hx hk
theorem m_bit {x k : Nat} (hx : x < 18446744073709551616) (hk : k < 64) : ((lN x).toUInt64 >>> ((nI k).toInt64.toUInt64 &&& Int64.toUInt64 (lN 63))).toInt64 &&& lN 1 = lN (if x.testBit k then 1 else 0) := by
  have h := wb_bit hx hk
  refine h.trans (congrArg lN ?_)
  have e := Nat.testBit_eq_decide_div_mod_eq (x := x) (i := k)
  rw [e]
  by_cases c : x / 2 ^ k % 2 = 1
  · rw [c]; rfl
  · have : x / 2 ^ k % 2 = 0 := by omega
    rw [this]; rfl
theorem m_cmp {a b : Nat} (ha : a < 9223372036854775808) (hb : b < 9223372036854775808) : (lg_cmp (lN a) (lN b) = nI 0) = (a = b) := by
  rw [eq_iff_iff]
  exact (lg_cmp_eq _ _).trans (fb_lN_inj ha hb)
theorem m_bit0 {x k : Nat} (hx : x < 18446744073709551616) (hk : k < 64) : (lg_cmp (((lN x).toUInt64 >>> ((nI k).toInt64.toUInt64 &&& Int64.toUInt64 (lN 63))).toInt64 &&& lN 1) (lN 0) = nI 0) = (x.testBit k = false) := by
  rw [m_bit hx hk]
  cases x.testBit k
  · rw [if_neg (by decide), m_cmp (by decide) (by decide)]; simp
  · rw [if_pos rfl, m_cmp (by decide) (by decide)]; simp
theorem m_shl {k : Nat} (hk : k < 64) : lN 1 <<< ((nI k).toInt64 &&& lN 63) = lN (2 ^ k) := by
  have h := wb_shl 1 hk
  rw [Nat.one_mul] at h
  exact h
theorem m_shl2 {k : Nat} (hk : k < 64) : lN 1 <<< (lN k &&& lN 63) = lN (2 ^ k) := by
  have h : lN k &&& lN 63 = lN k := by rw [show (63 : Nat) = 2 ^ 6 - 1 from rfl, fb_andL, Nat.and_two_pow_sub_one_eq_mod, Nat.mod_eq_of_lt hk]
  have h2 : (nI k).toInt64 &&& lN 63 = lN k := by
    rw [n_l (by omega), h]
  rw [h, ← h2, m_shl hk]
theorem m_bit2 {x k : Nat} (hx : x < 18446744073709551616) (hk : k < 64) : (lg_cmp (((lN x).toUInt64 >>> ((lN k).toUInt64 &&& Int64.toUInt64 (lN 63))).toInt64 &&& lN 1) (lN 0) = nI 0) = (x.testBit k = false) := by
  have h : lN k = (nI k).toInt64 := (n_l (by omega)).symm
  rw [h]
  exact m_bit0 hx hk
/-! answers yes or no -/
def bI (b : Bool) : Int32 := if b then nI 1 else nI 0
theorem bI_t : bI true = nI 1 := rfl
theorem bI_f : bI false = nI 0 := rfl
theorem bI0 (b : Bool) : (bI b = nI 0) = (b = false) := by cases b <;> decide
theorem bI1 (b : Bool) : (bI b = nI 1) = (b = true) := by cases b <;> decide
theorem bI_01 (b : Bool) : (if b = false then some (nI 0) else some (nI 1)) = some (bI b) := by cases b <;> rfl
theorem bI_01t (b : Bool) : (if b = true then some (nI 0) else some (nI 1)) = some (bI (!b)) := by cases b <;> rfl
theorem bI_10 (b : Bool) : (if b = true then some (nI 1) else some (nI 0)) = some (bI b) := by cases b <;> rfl
theorem bI_10f (b : Bool) : (if b = false then some (nI 1) else some (nI 0)) = some (bI (!b)) := by cases b <;> rfl
theorem bI_10p (p : Prop) [Decidable p] : (if p then some (nI 1) else some (nI 0)) = some (bI (decide p)) := by
  by_cases h : p
  · rw [if_pos h, decide_eq_true h]; rfl
  · rw [if_neg h, decide_eq_false h]; rfl
theorem bI_01p (p : Prop) [Decidable p] : (if p then some (nI 0) else some (nI 1)) = some (bI (!decide p)) := by
  by_cases h : p
  · rw [if_pos h, decide_eq_true h]; rfl
  · rw [if_neg h, decide_eq_false h]; rfl
theorem bI_eq {a b : Bool} (h : a = b) : some (bI a) = some (bI b) := by rw [h]
