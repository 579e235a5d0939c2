/-! the beginning -/
def T0 : List Nat := [116, 97, 107, 101, 115, 32, 110, 111, 116, 32, 104, 101, 114, 101, 32, 59, 32, 119, 111, 114, 116, 104, 32, 102, 97, 114, 32, 59, 32, 116, 105, 109, 101, 115, 32, 49, 32, 43, 32, 102, 97, 114, 32, 59]
def b0 (i : Nat) : Nat := T0.getD i 256
def b1 (i : Nat) : Nat := (T0 ++ [32, 32, 32, 32]).getD i 256
def C0 : Cd := ([-5, -9], [-4], [1, -4, -12])
theorem b0_r : rdT b0 = .inr C0 := by decide +kernel
theorem b1_r : rdT b1 = .inr C0 := by decide +kernel
theorem b0_b : By b0 44 := ⟨by decide, by decide +kernel, fun i hi => by unfold b0; rw [List.getD_eq_getElem?_getD, List.getElem?_eq_none (by exact hi)]; rfl⟩
theorem b1_b : By b1 48 := ⟨by decide, by decide +kernel, fun i hi => by unfold b1; rw [List.getD_eq_getElem?_getD, List.getElem?_eq_none (by exact hi)]; rfl⟩
theorem char0 : ∀ {k : Nat}, k < 44 → ∀ (m : Mem), J0_charAt_5068e 0 (nI k) m = some (nI (b0 k), m)
  | 0, _, _ => rfl
  | 1, _, _ => rfl
  | 2, _, _ => rfl
  | 3, _, _ => rfl
  | 4, _, _ => rfl
  | 5, _, _ => rfl
  | 6, _, _ => rfl
  | 7, _, _ => rfl
  | 8, _, _ => rfl
  | 9, _, _ => rfl
  | 10, _, _ => rfl
  | 11, _, _ => rfl
  | 12, _, _ => rfl
  | 13, _, _ => rfl
  | 14, _, _ => rfl
  | 15, _, _ => rfl
  | 16, _, _ => rfl
  | 17, _, _ => rfl
  | 18, _, _ => rfl
  | 19, _, _ => rfl
  | 20, _, _ => rfl
  | 21, _, _ => rfl
  | 22, _, _ => rfl
  | 23, _, _ => rfl
  | 24, _, _ => rfl
  | 25, _, _ => rfl
  | 26, _, _ => rfl
  | 27, _, _ => rfl
  | 28, _, _ => rfl
  | 29, _, _ => rfl
  | 30, _, _ => rfl
  | 31, _, _ => rfl
  | 32, _, _ => rfl
  | 33, _, _ => rfl
  | 34, _, _ => rfl
  | 35, _, _ => rfl
  | 36, _, _ => rfl
  | 37, _, _ => rfl
  | 38, _, _ => rfl
  | 39, _, _ => rfl
  | 40, _, _ => rfl
  | 41, _, _ => rfl
  | 42, _, _ => rfl
  | 43, _, _ => rfl
  | n + 44, h, _ => absurd h (by omega)
theorem len0 (m : Mem) : J0_length_8abf5 0 m = some (nI 44, m) := rfl
theorem wr_l : ∀ n k m, k ≤ 44 → 44 - k < n → m.1 30 1 = nI k → (∀ i, i < k → m.1 31 i = nI (b0 i)) → ∃ m', X3_write_2 n (nI k) m = some m' ∧ m'.1 30 1 = nI 44 ∧ (∀ i, i < 44 → m'.1 31 i = nI (b0 i)) ∧ (∀ x j, x ≠ 30 → x ≠ 31 → m'.1 x j = m.1 x j) ∧ m'.2 = m.2 := by
  intro n
  induction n with
  | zero => intro k m _ h; omega
  | succ n ih =>
    intro k m hk hn h1 h2
    rw [X3_write_2]
    by_cases h : k = 44
    · subst h
      simp (disch := omega) only [leT, leF, ltT, ltF, eqT, eqF, inT, n_cl, nI_add, pk_mul, n_div, pk_sub, md8, md2, or_true, true_or, or_false, false_or, Bool.true_eq_false, Bool.false_eq_true, L0, L1, L2, L3, L4, L5, L6, L7, L8, L9, L10, L20, L31, L40, L64, L99, L100, L255, L256, L999, L1000, L99999, ↓reduceIte, L11, L12, L13, L14, L15, L16, L30, L48, L160, K1, K2, K3, K4, K5, K7, K8, K9, K15, K17, K20, K27, K37, K48, K99, K255, inR, isPlace_r, isPlace_c, isSheet_r, len0, bi]
      exact ⟨m, rfl, h1, h2, fun _ _ _ _ => rfl, rfl⟩
    · obtain ⟨m', a1, a2, a3, a4, a5⟩ := ih (k + 1) (pI (pI m 31 k (nI (b0 k))) 30 1 (nI (k + 1))) (by omega) (by omega) rIs (fun i hi => by
        by_cases q : i = k
        · subst q; rw [rIn (by omega), rIs]
        · rw [rIn (by omega), rIn (by omega)]; exact h2 i (by omega))
      unfold X3_add
      simp (disch := omega) only [leT, leF, ltT, ltF, eqT, eqF, inT, n_cl, nI_add, pk_mul, n_div, pk_sub, md8, md2, or_true, true_or, or_false, false_or, Bool.true_eq_false, Bool.false_eq_true, L0, L1, L2, L3, L4, L5, L6, L7, L8, L9, L10, L20, L31, L40, L64, L99, L100, L255, L256, L999, L1000, L99999, ↓reduceIte, L11, L12, L13, L14, L15, L16, L30, L48, L160, K1, K2, K3, K4, K5, K7, K8, K9, K15, K17, K20, K27, K37, K48, K99, K255, inR, isPlace_r, isPlace_c, isSheet_r, len0, bi, char0 (show k < 44 by omega), h1, rIn, rIs]
      exact ⟨m', a1, a2, a3, fun x j q1 q2 => by rw [a4 x j q1 q2, rIn (by omega), rIn (by omega)], a5⟩
theorem spell_r {m : Mem} {t : Nat} {v : Nat → Int32} (ht : t ≤ 900) : ∃ m', X10_spell (nI t) (v 0) (v 1) (v 2) (v 3) (v 4) (v 5) (v 6) (v 7) m = some m' ∧ (∀ x j, m'.1 x j = if x = 64 ∧ t ≤ j ∧ j < t + 8 then v (j - t) else m.1 x j) ∧ m'.2 = m.2 := by
  unfold X10_spell
  simp (disch := omega) only [leT, leF, ltT, ltF, eqT, eqF, inT, n_cl, nI_add, pk_mul, n_div, pk_sub, md8, md2, or_true, true_or, or_false, false_or, Bool.true_eq_false, Bool.false_eq_true, L0, L1, L2, L3, L4, L5, L6, L7, L8, L9, L10, L20, L31, L40, L64, L99, L100, L255, L256, L999, L1000, L99999, ↓reduceIte, L11, L12, L13, L14, L15, L16, L30, L48, L160, K1, K2, K3, K4, K5, K7, K8, K9, K15, K17, K20, K27, K37, K48, K99, K255, inR, isPlace_r, isPlace_c, isSheet_r]
  refine ⟨_, rfl, fun x j => ?_, rfl⟩
  by_cases h : x = 64 ∧ t ≤ j ∧ j < t + 8
  · rw [if_pos h]
    obtain ⟨rfl, h1, h2⟩ := h
    rcases (show j = t ∨ j = t + 1 ∨ j = t + 2 ∨ j = t + 3 ∨ j = t + 4 ∨ j = t + 5 ∨ j = t + 6 ∨ j = t + 7 by omega) with rfl | rfl | rfl | rfl | rfl | rfl | rfl | rfl
    all_goals simp (disch := omega) only [rIn, rIs, Nat.add_sub_cancel_left, Nat.sub_self]
  · rw [if_neg h]
    simp (disch := omega) only [rIn]
