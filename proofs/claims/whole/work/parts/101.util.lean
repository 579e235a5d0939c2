theorem toInt_lit64 (n : Nat) (h : n < 2 ^ 63) : (OfNat.ofNat n : Int64).toInt = n := pk_lT h
theorem in_s (a b c : Int64) (m : Mem) : X10_in a b c m = some (if b.toInt ≤ a.toInt ∧ a.toInt ≤ c.toInt then 1 else 0, m) := by
  unfold X10_in
  simp only [lg_cmp_lt, lg_cmp_gt, Int64.lt_iff_toInt_lt]
  split
  · rw [if_neg (by omega)]
  · split
    · rw [if_neg (by omega)]
    · rw [if_pos (by omega)]
/-- the numbers 0 .. n-1 -/
theorem inn_i {x : Int32} {n : Nat} : inn x n ↔ 0 ≤ x.toInt ∧ x.toInt < n := vp_in_iff
theorem in0 (x : Int32) (n : Nat) (hn : n < 1000) (c : Int64) (hc : c.toInt = (n : Int) - 1) (m : Mem) : X10_in x.toInt64 0 c m = some (if inn x n then 1 else 0, m) := by
  rw [in_s]
  congr 2
  have e0 : (0 : Int64).toInt = 0 := rfl
  have e1 : (x.toInt64).toInt = x.toInt := Int32.toInt_toInt64 x
  rw [e0, e1, hc]
  by_cases h : inn x n
  · rw [if_pos h, if_pos]; have := inn_i.mp h; omega
  · rw [if_neg h, if_neg]; intro q; apply h; rw [inn_i]; omega
theorem isPlace_r (x : Int32) (m : Mem) : X10_isPlace x m = some (if inn x 8 then 1 else 0, m) := by
  unfold X10_isPlace
  rw [in0 x 8 (by decide) 7 rfl]
  by_cases h : inn x 8 <;> simp [h, bi]
theorem isSheet_r (x : Int32) (m : Mem) : X10_isSheet x m = some (if inn x 4 then 1 else 0, m) := by
  unfold X10_isSheet
  rw [in0 x 4 (by decide) 3 rfl]
  by_cases h : inn x 4 <;> simp [h, bi]
theorem isOne_r {N : Nat} (hN : N ≤ 6) (x : Int32) (m : Mem) (h : m.1 63 11 = nI N) : X10_isOne x m = some (if inn x N then 1 else 0, m) := by
  unfold X10_isOne
  rw [h, in0 x N (by omega) _ ?_]
  · by_cases h : inn x N <;> simp [h, bi]
  · rw [Int32.toInt_toInt64]
    rcases (show N = 0 ∨ N = 1 ∨ N = 2 ∨ N = 3 ∨ N = 4 ∨ N = 5 ∨ N = 6 by omega) with rfl | rfl | rfl | rfl | rfl | rfl | rfl <;> rfl
theorem isPlace_c (x : Int32) (m : Mem) : X9_isPlace x m = some (if inn x 8 then 1 else 0, m) := by
  unfold X9_isPlace
  simp only [Int32.lt_iff_toInt_lt, Int32.le_iff_toInt_le]
  have e0 : (0 : Int32).toInt = 0 := rfl
  have e8 : (8 : Int32).toInt = 8 := rfl
  by_cases h : inn x 8
  · have := inn_i.mp h
    rw [if_pos h, if_neg (by omega), if_neg (by omega)]
  · rw [if_neg h]
    by_cases h1 : x.toInt < (0 : Int32).toInt
    · rw [if_pos h1]
    · rw [if_neg h1, if_pos]; rcases Int.lt_or_le x.toInt 8 with q | q
      · exact absurd (inn_i.mpr ⟨by omega, by omega⟩) h
      · omega
theorem isPerson_c {N : Nat} (hN : N ≤ 6) (x : Int32) (m : Mem) (h : m.1 5 0 = nI N) : X9_isPerson x m = some (if inn x N then 1 else 0, m) := by
  unfold X9_isPerson
  simp only [Int32.lt_iff_toInt_lt, Int32.le_iff_toInt_le, h]
  have e0 : (0 : Int32).toInt = 0 := rfl
  have e8 : (nI N).toInt = N := nI_toInt (by omega)
  by_cases h : inn x N
  · have := inn_i.mp h
    rw [if_pos h, if_neg (by omega), if_neg (by omega)]
  · rw [if_neg h]
    by_cases h1 : x.toInt < (0 : Int32).toInt
    · rw [if_pos h1]
    · rw [if_neg h1, if_pos]; rcases Int.lt_or_le x.toInt N with q | q
      · exact absurd (inn_i.mpr ⟨by omega, by omega⟩) h
      · omega
theorem inn_ex {x : Int32} {n : Nat} (h : inn x n) (hn : n < 2147483648) : ∃ j, j < n ∧ x = nI j := vp_in_of h hn
/-! bits -/
def popc (n : Nat) : Nat := n % 2 + n / 2 % 2 + n / 4 % 2 + n / 8 % 2 + n / 16 % 2 + n / 32 % 2 + n / 64 % 2 + n / 128 % 2
def bitsP : Nat → Int32 → Int32 → Option Int32
  | 0, _, _ => none
  | n + 1, v1, v2 => if v2 = 0 then some v1 else bitsP n (v1 + (1 : Int32)) (v2 &&& (v2 - (1 : Int32)))
theorem bitsP_s : ∀ (n : Nat) (v1 v2 : Int32) (m : Mem), X10_bitsOf_4 n v1 v2 m = (bitsP n v1 v2).map (fun r => (r, m)) := by
  intro n
  induction n with
  | zero => intro v1 v2 m; rfl
  | succ n ih =>
    intro v1 v2 m
    rw [X10_bitsOf_4, bitsP]
    split
    · rfl
    · exact ih _ _ m
theorem bitsP_v : ∀ n, n < 256 → bitsP 10000 0 (nI n) = some (nI (popc n)) := by decide +kernel
theorem bitsOf_r {n : Nat} (h : n < 256) (m : Mem) : X10_bitsOf (nI n) m = some (nI (popc n), m) := by
  unfold X10_bitsOf
  rw [bitsP_s, bitsP_v n h]; rfl
theorem popc_le : ∀ n, n < 256 → popc n ≤ 8 := by decide +kernel
theorem bitCount_s (v : Int32) (m : Mem) : ∃ r, J6_bitCount_0f7a4 v m = some (r, m) := ⟨_, rfl⟩
def bcP (v : Int32) : Int32 := match J6_bitCount_0f7a4 v ((fun _ _ => 0), (fun _ _ => 0)) with
  | some (r, _) => r
  | none => 0
theorem bcP_v : ∀ n, n < 256 → bcP (nI n) = nI (popc n) := by decide +kernel
theorem bitCount_c {n : Nat} (h : n < 256) (m : Mem) : J6_bitCount_0f7a4 (nI n) m = some (nI (popc n), m) := by
  have e : J6_bitCount_0f7a4 (nI n) m = some (bcP (nI n), m) := rfl
  rw [e, bcP_v n h]
