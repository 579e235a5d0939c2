/-! calls: count, taken -/
def rcN (r : Nat → Nat) : Nat → Nat
  | 0 => 0
  | k + 1 => rcN r k + if r k ≠ 0 ∧ k / 8 < k % 8 then 1 else 0
theorem rcN_le (r : Nat → Nat) : ∀ k, rcN r k ≤ k := by
  intro k
  induction k with
  | zero => exact Nat.le_refl _
  | succ k ih => rw [rcN]; split <;> omega
theorem rcN_row (r : Nat → Nat) {a : Nat} (ha : a < 8) : ∀ j, j ≤ a + 1 → rcN r (8 * a + j) = rcN r (8 * a) := by
  intro j
  induction j with
  | zero => intro _; rfl
  | succ j ih =>
    intro hj
    rw [show 8 * a + (j + 1) = 8 * a + j + 1 from rfl, rcN, if_neg (by omega), ih (by omega)]
    rfl
section
variable {nt f R : Nat} {m : Mem} {G : Fo} {r : Nat → Nat}
theorem rc14 (k4 : Int32 → Int32 → Mem → Option (Int32 × Mem)) (hr : RdO r) (ho : Ro m 2 r) {a : Nat} (ha : a < 8) : ∀ n b, b ≤ 8 → a < b → 8 - b < n → X4_size_14 k4 n (nI (rcN r (8 * a + b))) (nI a) (nI b) m = k4 (nI (rcN r (8 * (a + 1)))) (nI (a + 1)) m := by
  intro n
  induction n with
  | zero => intro b _ _ h; omega
  | succ n ih =>
    intro b hb hab hn
    rw [X4_size_14]
    by_cases h8 : b = 8
    · subst h8
      simp (disch := omega) only [leT, leF, ltT, ltF, eqT, eqF, inT, n_cl, nI_add, pk_mul, n_div, pk_sub, md8, md2, or_true, true_or, or_false, false_or, Bool.true_eq_false, Bool.false_eq_true, L0, L1, L2, L3, L4, L5, L6, L7, L8, L9, L10, L20, L31, L40, L64, L99, L100, L255, L256, L999, L1000, L99999, ↓reduceIte]
      rfl
    · have e := ho (8 * a + b) (by omega)
      have hl := hr.1 (8 * a + b) (by omega)
      have hi := ih (b + 1) (by omega) (by omega) (by omega)
      rw [show 8 * a + (b + 1) = 8 * a + b + 1 from rfl, rcN] at hi
      have ex : a * 8 + b = 8 * a + b := by omega
      by_cases q : r (8 * a + b) = 0
      · rw [if_neg (by omega)] at hi
        simp (disch := omega) only [leT, leF, ltT, ltF, eqT, eqF, inT, n_cl, nI_add, pk_mul, n_div, pk_sub, md8, md2, or_true, true_or, or_false, false_or, Bool.true_eq_false, Bool.false_eq_true, L0, L1, L2, L3, L4, L5, L6, L7, L8, L9, L10, L20, L31, L40, L64, L99, L100, L255, L256, L999, L1000, L99999, ↓reduceIte, ex, e, X4_size_37]
        exact hi
      · rw [if_pos (by omega)] at hi
        simp (disch := omega) only [leT, leF, ltT, ltF, eqT, eqF, inT, n_cl, nI_add, pk_mul, n_div, pk_sub, md8, md2, or_true, true_or, or_false, false_or, Bool.true_eq_false, Bool.false_eq_true, L0, L1, L2, L3, L4, L5, L6, L7, L8, L9, L10, L20, L31, L40, L64, L99, L100, L255, L256, L999, L1000, L99999, ↓reduceIte, ex, e, X4_size_37]
        exact hi
theorem rc4 (hr : RdO r) (ho : Ro m 2 r) : ∀ n a, a ≤ 8 → 8 - a < n → X4_size_4 n (nI (rcN r (8 * a))) (nI a) m = some (nI (rcN r 64), m) := by
  intro n
  induction n with
  | zero => intro a _ h; omega
  | succ n ih =>
    intro a ha hn
    rw [X4_size_4]
    by_cases h8 : a = 8
    · subst h8
      simp (disch := omega) only [leT, leF, ltT, ltF, eqT, eqF, inT, n_cl, nI_add, pk_mul, n_div, pk_sub, md8, md2, or_true, true_or, or_false, false_or, Bool.true_eq_false, Bool.false_eq_true, L0, L1, L2, L3, L4, L5, L6, L7, L8, L9, L10, L20, L31, L40, L64, L99, L100, L255, L256, L999, L1000, L99999, ↓reduceIte]
    · have h1 := rc14 (X4_size_4 n) hr ho (show a < 8 by omega) 10000 (a + 1) (by omega) (by omega) (by omega)
      rw [rcN_row r (show a < 8 by omega) (a + 1) (Nat.le_refl _)] at h1
      simp (disch := omega) only [leT, leF, ltT, ltF, eqT, eqF, inT, n_cl, nI_add, pk_mul, n_div, pk_sub, md8, md2, or_true, true_or, or_false, false_or, Bool.true_eq_false, Bool.false_eq_true, L0, L1, L2, L3, L4, L5, L6, L7, L8, L9, L10, L20, L31, L40, L64, L99, L100, L255, L256, L999, L1000, L99999, ↓reduceIte]
      rw [h1]
      exact ih (a + 1) (by omega) (by omega)
theorem rc65 (hr : RdO r) (ho : Ro m 67 r) {w : Nat} (hw : w < 2) (h0 : m.1 63 11 = nI (G 0 0)) : ∀ n k, k ≤ 64 → 64 - k < n → X10_count_65 n (nI w) (nI (rcN r k)) (nI k) m = some (if w = 0 then nI (G 0 0) else nI (rcN r 64), m) := by
  intro n
  induction n with
  | zero => intro k _ h; omega
  | succ n ih =>
    intro k hk hn
    rw [X10_count_65]
    by_cases h8 : k = 64
    · subst h8
      by_cases w0 : w = 0
      · simp (disch := omega) only [leT, leF, ltT, ltF, eqT, eqF, inT, n_cl, nI_add, pk_mul, n_div, pk_sub, md8, md2, or_true, true_or, or_false, false_or, Bool.true_eq_false, Bool.false_eq_true, L0, L1, L2, L3, L4, L5, L6, L7, L8, L9, L10, L20, L31, L40, L64, L99, L100, L255, L256, L999, L1000, L99999, ↓reduceIte, L11, L12, L13, L14, L15, L16, L30, L48, L160, K1, K2, K3, K4, K5, K7, K8, K9, K15, K17, K20, K27, K37, K48, K99, K255, inR, isPlace_r, isPlace_c, isSheet_r, h0, w0]
      · simp (disch := omega) only [leT, leF, ltT, ltF, eqT, eqF, inT, n_cl, nI_add, pk_mul, n_div, pk_sub, md8, md2, or_true, true_or, or_false, false_or, Bool.true_eq_false, Bool.false_eq_true, L0, L1, L2, L3, L4, L5, L6, L7, L8, L9, L10, L20, L31, L40, L64, L99, L100, L255, L256, L999, L1000, L99999, ↓reduceIte, L11, L12, L13, L14, L15, L16, L30, L48, L160, K1, K2, K3, K4, K5, K7, K8, K9, K15, K17, K20, K27, K37, K48, K99, K255, inR, isPlace_r, isPlace_c, isSheet_r, w0]
    · have e := ho k (by omega)
      have hl := hr.1 k (by omega)
      have hi := ih (k + 1) (by omega) (by omega)
      rw [rcN] at hi
      by_cases q : r k = 0
      · rw [if_neg (by omega)] at hi
        simp (disch := omega) only [leT, leF, ltT, ltF, eqT, eqF, inT, n_cl, nI_add, pk_mul, n_div, pk_sub, md8, md2, or_true, true_or, or_false, false_or, Bool.true_eq_false, Bool.false_eq_true, L0, L1, L2, L3, L4, L5, L6, L7, L8, L9, L10, L20, L31, L40, L64, L99, L100, L255, L256, L999, L1000, L99999, ↓reduceIte, L11, L12, L13, L14, L15, L16, L30, L48, L160, K1, K2, K3, K4, K5, K7, K8, K9, K15, K17, K20, K27, K37, K48, K99, K255, inR, isPlace_r, isPlace_c, isSheet_r, e, X10_count_96, X10_count_97]
        exact hi
      · by_cases q2 : k % 8 ≤ k / 8
        · rw [if_neg (by omega)] at hi
          simp (disch := omega) only [leT, leF, ltT, ltF, eqT, eqF, inT, n_cl, nI_add, pk_mul, n_div, pk_sub, md8, md2, or_true, true_or, or_false, false_or, Bool.true_eq_false, Bool.false_eq_true, L0, L1, L2, L3, L4, L5, L6, L7, L8, L9, L10, L20, L31, L40, L64, L99, L100, L255, L256, L999, L1000, L99999, ↓reduceIte, L11, L12, L13, L14, L15, L16, L30, L48, L160, K1, K2, K3, K4, K5, K7, K8, K9, K15, K17, K20, K27, K37, K48, K99, K255, inR, isPlace_r, isPlace_c, isSheet_r, e, X10_count_96, X10_count_97]
          exact hi
        · rw [if_pos (by omega)] at hi
          simp (disch := omega) only [leT, leF, ltT, ltF, eqT, eqF, inT, n_cl, nI_add, pk_mul, n_div, pk_sub, md8, md2, or_true, true_or, or_false, false_or, Bool.true_eq_false, Bool.false_eq_true, L0, L1, L2, L3, L4, L5, L6, L7, L8, L9, L10, L20, L31, L40, L64, L99, L100, L255, L256, L999, L1000, L99999, ↓reduceIte, L11, L12, L13, L14, L15, L16, L30, L48, L160, K1, K2, K3, K4, K5, K7, K8, K9, K15, K17, K20, K27, K37, K48, K99, K255, inR, isPlace_r, isPlace_c, isSheet_r, e, X10_count_96, X10_count_97]
          exact hi
def muS (G : Fo) : Nat → Nat
  | 0 => 0
  | p + 1 => muS G p + G 6 p
theorem muS_le (hG : GO nt R G) : ∀ p, p ≤ 6 → muS G p ≤ 99999 * p := by
  intro p
  induction p with
  | zero => intro _; exact Nat.le_refl _
  | succ p ih =>
    intro hp
    have := (hG.2.2.2 p (by omega)).2.2.2.2.2
    have := ih (by omega)
    rw [muS]; omega
theorem mu_c (hR : RF f m G) (hG : GO nt R G) : ∀ n p, p ≤ G 0 0 → G 0 0 - p < n → X0_minutesOfAll_4 f n (nI (muS G p)) (nI p) m = some (nI (muS G (G 0 0)), m) := by
  have g0 := hG.1
  have s0 := hR.1 0 (by decide)
  intro n
  induction n with
  | zero => intro p _ h; omega
  | succ n ih =>
    intro p hp hn
    rw [X0_minutesOfAll_4]
    by_cases h8 : p = G 0 0
    · simp (disch := omega) only [leT, leF, ltT, ltF, eqT, eqF, inT, n_cl, nI_add, pk_mul, n_div, pk_sub, md8, md2, or_true, true_or, or_false, false_or, Bool.true_eq_false, Bool.false_eq_true, L0, L1, L2, L3, L4, L5, L6, L7, L8, L9, L10, L20, L31, L40, L64, L99, L100, L255, L256, L999, L1000, L99999, ↓reduceIte, s0, h8]
    · have e := hR.2 6 p (by decide) (by decide) (by omega)
      have hi := ih (p + 1) (by omega) (by omega)
      simp (disch := omega) only [leT, leF, ltT, ltF, eqT, eqF, inT, n_cl, nI_add, pk_mul, n_div, pk_sub, md8, md2, or_true, true_or, or_false, false_or, Bool.true_eq_false, Bool.false_eq_true, L0, L1, L2, L3, L4, L5, L6, L7, L8, L9, L10, L20, L31, L40, L64, L99, L100, L255, L256, L999, L1000, L99999, ↓reduceIte, s0, e]
      exact hi
theorem mu_r (hR : RR m G) (hG : GO nt R G) : ∀ n p, p ≤ G 0 0 → G 0 0 - p < n → X10_minutesAll_4 n (nI (muS G p)) (nI p) m = some (nI (muS G (G 0 0)), m) := by
  have g0 := hG.1
  have s0 := hR.1
  intro n
  induction n with
  | zero => intro p _ h; omega
  | succ n ih =>
    intro p hp hn
    rw [X10_minutesAll_4]
    by_cases h8 : p = G 0 0
    · simp (disch := omega) only [leT, leF, ltT, ltF, eqT, eqF, inT, n_cl, nI_add, pk_mul, n_div, pk_sub, md8, md2, or_true, true_or, or_false, false_or, Bool.true_eq_false, Bool.false_eq_true, L0, L1, L2, L3, L4, L5, L6, L7, L8, L9, L10, L20, L31, L40, L64, L99, L100, L255, L256, L999, L1000, L99999, ↓reduceIte, L11, L12, L13, L14, L15, L16, L30, L48, L160, K1, K2, K3, K4, K5, K7, K8, K9, K15, K17, K20, K27, K37, K48, K99, K255, inR, isPlace_r, isPlace_c, isSheet_r, s0, h8]
    · have e := (hR.2.2.2.1 p (by omega)).2.2.2.2
      have hi := ih (p + 1) (by omega) (by omega)
      simp (disch := omega) only [leT, leF, ltT, ltF, eqT, eqF, inT, n_cl, nI_add, pk_mul, n_div, pk_sub, md8, md2, or_true, true_or, or_false, false_or, Bool.true_eq_false, Bool.false_eq_true, L0, L1, L2, L3, L4, L5, L6, L7, L8, L9, L10, L20, L31, L40, L64, L99, L100, L255, L256, L999, L1000, L99999, ↓reduceIte, L11, L12, L13, L14, L15, L16, L30, L48, L160, K1, K2, K3, K4, K5, K7, K8, K9, K15, K17, K20, K27, K37, K48, K99, K255, inR, isPlace_r, isPlace_c, isSheet_r, s0, e]
      exact hi
theorem min_c (hR : RF f m G) (hG : GO nt R G) : X0_minutesOfAll f m = some (nI (muS G (G 0 0)), m) := mu_c hR hG 10000 0 (Nat.zero_le _) (by have := hG.1; omega)
theorem min_r (hR : RR m G) (hG : GO nt R G) : X10_minutesAll m = some (nI (muS G (G 0 0)), m) := mu_r hR hG 10000 0 (Nat.zero_le _) (by have := hG.1; omega)
end
theorem o_count : ob_count Iv := by
  rintro c nt z m a1 hc ⟨cd, r, rk, G, H, tp, n, ve, hv, hE, hW⟩
  have bad : Iv (c + 1) nt z m := Iv_0 hv hE hW
  obtain ⟨w1, w2, w3, w4, w5, w6, w7, w8⟩ := hW
  have s0 := w2.1 0 (by decide)
  have s2 := w2.1 2 (by decide)
  have t1 := rc4 hE.2.2.1 hE.2.2.2.1 10000 0 (by decide) (by decide)
  have t2 := fun (w : Nat) (hw : w < 2) => rc65 (G := G) hE.2.2.1 w1.2.2.2.1 hw w3.1 10000 0 (by decide) (by decide)
  have u1 := min_c w2 w4
  have u2 := min_r w3 w4
  have v1 := w7.1
  have v2 := w7.2
  have p1 := w6.2.1
  have p2 := w6.2.2.1
  have q1 := w3.2.2.1
  have t1' : X4_size m = some (nI (rcN r 64), m) := t1
  rcases dich a1 6 (by decide) with ⟨w, hw, rfl⟩ | ⟨d0, d⟩
  · rcases (show w = 0 ∨ w = 1 ∨ w = 2 ∨ w = 3 ∨ w = 4 ∨ w = 5 by omega) with h | h | h | h | h | h
    · have t3 := t2 w (by omega)
      rw [if_pos h] at t3
      refine ⟨nI (G 0 0), m, m, ?_, ?_, bad⟩
      · unfold X9_count
        simp (disch := omega) only [leT, leF, ltT, ltF, eqT, eqF, inT, n_cl, nI_add, pk_mul, n_div, pk_sub, md8, md2, or_true, true_or, or_false, false_or, Bool.true_eq_false, Bool.false_eq_true, L0, L1, L2, L3, L4, L5, L6, L7, L8, L9, L10, L20, L31, L40, L64, L99, L100, L255, L256, L999, L1000, L99999, ↓reduceIte, s0]
      · unfold X10_count
        simp (disch := omega) only [leT, leF, ltT, ltF, eqT, eqF, inT, n_cl, nI_add, pk_mul, n_div, pk_sub, md8, md2, or_true, true_or, or_false, false_or, Bool.true_eq_false, Bool.false_eq_true, L0, L1, L2, L3, L4, L5, L6, L7, L8, L9, L10, L20, L31, L40, L64, L99, L100, L255, L256, L999, L1000, L99999, ↓reduceIte, L11, L12, L13, L14, L15, L16, L30, L48, L160, K1, K2, K3, K4, K5, K7, K8, K9, K15, K17, K20, K27, K37, K48, K99, K255, inR, isPlace_r, isPlace_c, isSheet_r, bi]
        exact t3
    · have t3 := t2 w (by omega)
      rw [if_neg (by omega)] at t3
      refine ⟨nI (rcN r 64), m, m, ?_, ?_, bad⟩
      · unfold X9_count
        simp (disch := omega) only [leT, leF, ltT, ltF, eqT, eqF, inT, n_cl, nI_add, pk_mul, n_div, pk_sub, md8, md2, or_true, true_or, or_false, false_or, Bool.true_eq_false, Bool.false_eq_true, L0, L1, L2, L3, L4, L5, L6, L7, L8, L9, L10, L20, L31, L40, L64, L99, L100, L255, L256, L999, L1000, L99999, ↓reduceIte, t1', bi]
      · unfold X10_count
        simp (disch := omega) only [leT, leF, ltT, ltF, eqT, eqF, inT, n_cl, nI_add, pk_mul, n_div, pk_sub, md8, md2, or_true, true_or, or_false, false_or, Bool.true_eq_false, Bool.false_eq_true, L0, L1, L2, L3, L4, L5, L6, L7, L8, L9, L10, L20, L31, L40, L64, L99, L100, L255, L256, L999, L1000, L99999, ↓reduceIte, L11, L12, L13, L14, L15, L16, L30, L48, L160, K1, K2, K3, K4, K5, K7, K8, K9, K15, K17, K20, K27, K37, K48, K99, K255, inR, isPlace_r, isPlace_c, isSheet_r, bi]
        exact t3
    · refine ⟨nI (muS G (G 0 0)), m, m, ?_, ?_, bad⟩
      · unfold X9_count
        simp (disch := omega) only [leT, leF, ltT, ltF, eqT, eqF, inT, n_cl, nI_add, pk_mul, n_div, pk_sub, md8, md2, or_true, true_or, or_false, false_or, Bool.true_eq_false, Bool.false_eq_true, L0, L1, L2, L3, L4, L5, L6, L7, L8, L9, L10, L20, L31, L40, L64, L99, L100, L255, L256, L999, L1000, L99999, ↓reduceIte, u1, bi]
      · unfold X10_count
        simp (disch := omega) only [leT, leF, ltT, ltF, eqT, eqF, inT, n_cl, nI_add, pk_mul, n_div, pk_sub, md8, md2, or_true, true_or, or_false, false_or, Bool.true_eq_false, Bool.false_eq_true, L0, L1, L2, L3, L4, L5, L6, L7, L8, L9, L10, L20, L31, L40, L64, L99, L100, L255, L256, L999, L1000, L99999, ↓reduceIte, L11, L12, L13, L14, L15, L16, L30, L48, L160, K1, K2, K3, K4, K5, K7, K8, K9, K15, K17, K20, K27, K37, K48, K99, K255, inR, isPlace_r, isPlace_c, isSheet_r, u2, bi]
    · refine ⟨nI (nt + 1), m, m, ?_, ?_, bad⟩
      · unfold X9_count
        simp (disch := omega) only [leT, leF, ltT, ltF, eqT, eqF, inT, n_cl, nI_add, pk_mul, n_div, pk_sub, md8, md2, or_true, true_or, or_false, false_or, Bool.true_eq_false, Bool.false_eq_true, L0, L1, L2, L3, L4, L5, L6, L7, L8, L9, L10, L20, L31, L40, L64, L99, L100, L255, L256, L999, L1000, L99999, ↓reduceIte, v1]
      · unfold X10_count
        simp (disch := omega) only [leT, leF, ltT, ltF, eqT, eqF, inT, n_cl, nI_add, pk_mul, n_div, pk_sub, md8, md2, or_true, true_or, or_false, false_or, Bool.true_eq_false, Bool.false_eq_true, L0, L1, L2, L3, L4, L5, L6, L7, L8, L9, L10, L20, L31, L40, L64, L99, L100, L255, L256, L999, L1000, L99999, ↓reduceIte, L11, L12, L13, L14, L15, L16, L30, L48, L160, K1, K2, K3, K4, K5, K7, K8, K9, K15, K17, K20, K27, K37, K48, K99, K255, inR, isPlace_r, isPlace_c, isSheet_r, v2, bi]
    · refine ⟨nI n, m, m, ?_, ?_, bad⟩
      · unfold X9_count
        simp (disch := omega) only [leT, leF, ltT, ltF, eqT, eqF, inT, n_cl, nI_add, pk_mul, n_div, pk_sub, md8, md2, or_true, true_or, or_false, false_or, Bool.true_eq_false, Bool.false_eq_true, L0, L1, L2, L3, L4, L5, L6, L7, L8, L9, L10, L20, L31, L40, L64, L99, L100, L255, L256, L999, L1000, L99999, ↓reduceIte, p1]
      · unfold X10_count
        simp (disch := omega) only [leT, leF, ltT, ltF, eqT, eqF, inT, n_cl, nI_add, pk_mul, n_div, pk_sub, md8, md2, or_true, true_or, or_false, false_or, Bool.true_eq_false, Bool.false_eq_true, L0, L1, L2, L3, L4, L5, L6, L7, L8, L9, L10, L20, L31, L40, L64, L99, L100, L255, L256, L999, L1000, L99999, ↓reduceIte, L11, L12, L13, L14, L15, L16, L30, L48, L160, K1, K2, K3, K4, K5, K7, K8, K9, K15, K17, K20, K27, K37, K48, K99, K255, inR, isPlace_r, isPlace_c, isSheet_r, p2, bi]
    · refine ⟨nI (G 0 2), m, m, ?_, ?_, bad⟩
      · unfold X9_count
        simp (disch := omega) only [leT, leF, ltT, ltF, eqT, eqF, inT, n_cl, nI_add, pk_mul, n_div, pk_sub, md8, md2, or_true, true_or, or_false, false_or, Bool.true_eq_false, Bool.false_eq_true, L0, L1, L2, L3, L4, L5, L6, L7, L8, L9, L10, L20, L31, L40, L64, L99, L100, L255, L256, L999, L1000, L99999, ↓reduceIte, s2]
      · unfold X10_count
        simp (disch := omega) only [leT, leF, ltT, ltF, eqT, eqF, inT, n_cl, nI_add, pk_mul, n_div, pk_sub, md8, md2, or_true, true_or, or_false, false_or, Bool.true_eq_false, Bool.false_eq_true, L0, L1, L2, L3, L4, L5, L6, L7, L8, L9, L10, L20, L31, L40, L64, L99, L100, L255, L256, L999, L1000, L99999, ↓reduceIte, L11, L12, L13, L14, L15, L16, L30, L48, L160, K1, K2, K3, K4, K5, K7, K8, K9, K15, K17, K20, K27, K37, K48, K99, K255, inR, isPlace_r, isPlace_c, isSheet_r, q1, bi]
  · have ne : ∀ k, k < 6 → (a1 = nI k) = False := fun k hk => eq_false (fun q => by
      rw [q] at d0
      have := inT (a := k) (n := 6) hk (by omega)
      rw [d0] at this
      exact this ▸ trivial)
    refine ⟨-nI 2, m, m, ?_, ?_, bad⟩
    · unfold X9_count
      simp (disch := omega) only [leT, leF, ltT, ltF, eqT, eqF, inT, n_cl, nI_add, pk_mul, n_div, pk_sub, md8, md2, or_true, true_or, or_false, false_or, Bool.true_eq_false, Bool.false_eq_true, L0, L1, L2, L3, L4, L5, L6, L7, L8, L9, L10, L20, L31, L40, L64, L99, L100, L255, L256, L999, L1000, L99999, ↓reduceIte, ne 0 (by decide), ne 1 (by decide), ne 2 (by decide), ne 3 (by decide), ne 4 (by decide), ne 5 (by decide)]
    · unfold X10_count
      simp (disch := omega) only [leT, leF, ltT, ltF, eqT, eqF, inT, n_cl, nI_add, pk_mul, n_div, pk_sub, md8, md2, or_true, true_or, or_false, false_or, Bool.true_eq_false, Bool.false_eq_true, L0, L1, L2, L3, L4, L5, L6, L7, L8, L9, L10, L20, L31, L40, L64, L99, L100, L255, L256, L999, L1000, L99999, ↓reduceIte, L11, L12, L13, L14, L15, L16, L30, L48, L160, K1, K2, K3, K4, K5, K7, K8, K9, K15, K17, K20, K27, K37, K48, K99, K255, inR, isPlace_r, isPlace_c, isSheet_r, d0, bi]
def unA (a b : Nat) : Bool := decide (a = b) || decide (b = 0 ∧ a ≠ 0) || decide (a = 3 ∧ b = 1) || decide (a = 4 ∧ b = 2)
theorem kindB {v : Nat} (hv : v < 6) (m : Mem) : X1_isKind (nI v) m = some (nI 1, m) := by
  unfold X1_isKind
  simp (disch := omega) only [leT, leF, ltT, ltF, eqT, eqF, inT, n_cl, nI_add, pk_mul, n_div, pk_sub, md8, md2, or_true, true_or, or_false, false_or, Bool.true_eq_false, Bool.false_eq_true, L0, L1, L2, L3, L4, L5, L6, L7, L8, L9, L10, L20, L31, L40, L64, L99, L100, L255, L256, L999, L1000, L99999, ↓reduceIte]
theorem kindM (m : Mem) : X1_isKind (-nI 1) m = some (nI 0, m) := by
  unfold X1_isKind
  rw [if_pos (show (-nI 1 : Int32) < 0 by decide)]
  rfl
theorem und_0 {b n k : Nat} {m : Mem} (hk : k + 1 < 6) (hb : b < 6) : X1_isUnder_4 (n + 2) (nI b) (nI 0) (nI k) m = some (nI (b01 (decide (b = 0))), m) := by
  rw [X1_isUnder_4]
  by_cases q : b = 0
  · subst q
    simp (disch := omega) only [leT, leF, ltT, ltF, eqT, eqF, inT, n_cl, nI_add, pk_mul, n_div, pk_sub, md8, md2, or_true, true_or, or_false, false_or, Bool.true_eq_false, Bool.false_eq_true, L0, L1, L2, L3, L4, L5, L6, L7, L8, L9, L10, L20, L31, L40, L64, L99, L100, L255, L256, L999, L1000, L99999, ↓reduceIte, kindB (show 0 < 6 by decide), bi, decide_true, b01]
  · simp (disch := omega) only [leT, leF, ltT, ltF, eqT, eqF, inT, n_cl, nI_add, pk_mul, n_div, pk_sub, md8, md2, or_true, true_or, or_false, false_or, Bool.true_eq_false, Bool.false_eq_true, L0, L1, L2, L3, L4, L5, L6, L7, L8, L9, L10, L20, L31, L40, L64, L99, L100, L255, L256, L999, L1000, L99999, ↓reduceIte, kindB (show 0 < 6 by decide), bi, q, decide_false, b01]
    rw [show ([-nI 1, nI 0, nI 0, nI 1, nI 2, nI 0] : List Int32).getD 0 (nI 0) = -nI 1 from rfl, X1_isUnder_4]
    simp (disch := omega) only [leT, leF, ltT, ltF, eqT, eqF, inT, n_cl, nI_add, pk_mul, n_div, pk_sub, md8, md2, or_true, true_or, or_false, false_or, Bool.true_eq_false, Bool.false_eq_true, L0, L1, L2, L3, L4, L5, L6, L7, L8, L9, L10, L20, L31, L40, L64, L99, L100, L255, L256, L999, L1000, L99999, ↓reduceIte, kindM, bi]
theorem und_s {a a' b n k : Nat} {m : Mem} (ha : a < 6) (hk : k < 6) (hb : b < 6) (hab : a ≠ b) (hl : ([-nI 1, nI 0, nI 0, nI 1, nI 2, nI 0] : List Int32).getD a (nI 0) = nI a') : X1_isUnder_4 (n + 1) (nI b) (nI a) (nI k) m = X1_isUnder_4 n (nI b) (nI a') (nI (k + 1)) m := by
  rw [X1_isUnder_4]
  simp (disch := omega) only [leT, leF, ltT, ltF, eqT, eqF, inT, n_cl, nI_add, pk_mul, n_div, pk_sub, md8, md2, or_true, true_or, or_false, false_or, Bool.true_eq_false, Bool.false_eq_true, L0, L1, L2, L3, L4, L5, L6, L7, L8, L9, L10, L20, L31, L40, L64, L99, L100, L255, L256, L999, L1000, L99999, ↓reduceIte, kindB ha, bi, hl]
theorem und_e {a b n k : Nat} {m : Mem} (ha : a < 6) (hk : k < 6) (hab : a = b) : X1_isUnder_4 (n + 1) (nI b) (nI a) (nI k) m = some (nI 1, m) := by
  rw [X1_isUnder_4]
  simp (disch := omega) only [leT, leF, ltT, ltF, eqT, eqF, inT, n_cl, nI_add, pk_mul, n_div, pk_sub, md8, md2, or_true, true_or, or_false, false_or, Bool.true_eq_false, Bool.false_eq_true, L0, L1, L2, L3, L4, L5, L6, L7, L8, L9, L10, L20, L31, L40, L64, L99, L100, L255, L256, L999, L1000, L99999, ↓reduceIte, kindB ha, bi]
theorem und_c {a b : Nat} (ha : a < 6) (hb : b < 6) (m : Mem) : X1_isUnder (nI a) (nI b) m = some (nI (b01 (unA a b)), m) := by
  show X1_isUnder_4 (9997 + 3) (nI b) (nI a) (nI 0) m = _
  by_cases hab : a = b
  · rw [und_e ha (by decide) hab]
    subst hab
    simp [unA, b01]
  · by_cases a0 : a = 0
    · rw [a0, und_0 (by decide) hb]
      have h1 : ¬ 0 = b := by omega
      have h2 : ¬ b = 0 := by omega
      simp [unA, b01, h1, h2]
    · rcases (show a = 1 ∨ a = 2 ∨ a = 3 ∨ a = 4 ∨ a = 5 by omega) with h | h | h | h | h
      · rw [und_s (a' := 0) ha (by decide) hb hab (by rw [h]; rfl), und_0 (by decide) hb]
        subst h
        simp [unA, hab]
      · rw [und_s (a' := 0) ha (by decide) hb hab (by rw [h]; rfl), und_0 (by decide) hb]
        subst h
        simp [unA, hab]
      · rw [und_s (a' := 1) ha (by decide) hb hab (by rw [h]; rfl)]
        subst h
        by_cases q : b = 1
        · rw [und_e (by decide) (by decide) q.symm]
          simp [unA, q, b01]
        · rw [und_s (a' := 0) (by decide) (by decide) hb (fun y => q y.symm) rfl, und_0 (by decide) hb]
          simp [unA, hab, q]
      · rw [und_s (a' := 2) ha (by decide) hb hab (by rw [h]; rfl)]
        subst h
        by_cases q : b = 2
        · rw [und_e (by decide) (by decide) q.symm]
          simp [unA, q, b01]
        · rw [und_s (a' := 0) (by decide) (by decide) hb (fun y => q y.symm) rfl, und_0 (by decide) hb]
          simp [unA, hab, q]
      · rw [und_s (a' := 0) ha (by decide) hb hab (by rw [h]; rfl), und_0 (by decide) hb]
        subst h
        simp [unA, hab]
theorem ove_r {a : Nat} (ha : a < 6) (m : Mem) : X10_over (nI a) m = some (if a = 0 then -nI 1 else nI (if a = 3 then 1 else if a = 4 then 2 else 0), m) := by
  unfold X10_over
  rcases (show a = 0 ∨ a = 1 ∨ a = 2 ∨ a = 3 ∨ a = 4 ∨ a = 5 by omega) with h | h | h | h | h | h
  all_goals simp (disch := omega) only [leT, leF, ltT, ltF, eqT, eqF, inT, n_cl, nI_add, pk_mul, n_div, pk_sub, md8, md2, or_true, true_or, or_false, false_or, Bool.true_eq_false, Bool.false_eq_true, L0, L1, L2, L3, L4, L5, L6, L7, L8, L9, L10, L20, L31, L40, L64, L99, L100, L255, L256, L999, L1000, L99999, ↓reduceIte, L11, L12, L13, L14, L15, L16, L30, L48, L160, K1, K2, K3, K4, K5, K7, K8, K9, K15, K17, K20, K27, K37, K48, K99, K255, inR, isPlace_r, isPlace_c, isSheet_r, h, Bool.and_true, Bool.true_and, Bool.false_and, Bool.and_false, Bool.or_true, Bool.true_or, Bool.or_false, Bool.false_or, Bool.not_true, Bool.not_false, show ¬ (1 = 0) by decide, show ¬ (2 = 0) by decide, show ¬ (3 = 0) by decide, show ¬ (4 = 0) by decide, show ¬ (5 = 0) by decide, show ¬ (2 = 1) by decide, show ¬ (3 = 1) by decide, show ¬ (4 = 1) by decide, show ¬ (5 = 1) by decide, show ¬ (3 = 2) by decide, show ¬ (4 = 2) by decide, show ¬ (5 = 2) by decide, show ¬ (4 = 3) by decide, show ¬ (5 = 3) by decide, show ¬ (5 = 4) by decide, show ¬ (1 = 3) by decide, show ¬ (1 = 4) by decide, show ¬ (2 = 3) by decide, show ¬ (2 = 4) by decide, show ¬ (3 = 4) by decide]
section
variable {m : Mem} {p b : Nat} {v : Int32}
theorem t51 (hp : p < 6) (hq : m.1 69 (5 * p) = v) (hb : b < 6) {a : Nat} (ha : a < 6) : X10_taken_51 (nI p) (nI b) (nI a) m = some (if a = b then v else -nI 13, m) := by
  unfold X10_taken_51
  by_cases q : a = b
  · simp (disch := omega) only [leT, leF, ltT, ltF, eqT, eqF, inT, n_cl, nI_add, pk_mul, n_div, pk_sub, md8, md2, or_true, true_or, or_false, false_or, Bool.true_eq_false, Bool.false_eq_true, L0, L1, L2, L3, L4, L5, L6, L7, L8, L9, L10, L20, L31, L40, L64, L99, L100, L255, L256, L999, L1000, L99999, ↓reduceIte, L11, L12, L13, L14, L15, L16, L30, L48, L160, K1, K2, K3, K4, K5, K7, K8, K9, K15, K17, K20, K27, K37, K48, K99, K255, inR, isPlace_r, isPlace_c, isSheet_r, hq, q]
  · simp (disch := omega) only [leT, leF, ltT, ltF, eqT, eqF, inT, n_cl, nI_add, pk_mul, n_div, pk_sub, md8, md2, or_true, true_or, or_false, false_or, Bool.true_eq_false, Bool.false_eq_true, L0, L1, L2, L3, L4, L5, L6, L7, L8, L9, L10, L20, L31, L40, L64, L99, L100, L255, L256, L999, L1000, L99999, ↓reduceIte, L11, L12, L13, L14, L15, L16, L30, L48, L160, K1, K2, K3, K4, K5, K7, K8, K9, K15, K17, K20, K27, K37, K48, K99, K255, inR, isPlace_r, isPlace_c, isSheet_r, q]
theorem t51m (hb : b < 6) : X10_taken_51 (nI p) (nI b) (-nI 1) m = some (-nI 13, m) := by
  have h := nbI_e (b := b) (by omega)
  have h1 : (-nI 1 = nI b) = False := eq_false (fun q => by
    have := h.mp (by unfold nbI; rw [if_neg (by omega)]; exact q.symm)
    omega)
  unfold X10_taken_51
  simp (disch := omega) only [leT, leF, ltT, ltF, eqT, eqF, inT, n_cl, nI_add, pk_mul, n_div, pk_sub, md8, md2, or_true, true_or, or_false, false_or, Bool.true_eq_false, Bool.false_eq_true, L0, L1, L2, L3, L4, L5, L6, L7, L8, L9, L10, L20, L31, L40, L64, L99, L100, L255, L256, L999, L1000, L99999, ↓reduceIte, L11, L12, L13, L14, L15, L16, L30, L48, L160, K1, K2, K3, K4, K5, K7, K8, K9, K15, K17, K20, K27, K37, K48, K99, K255, inR, isPlace_r, isPlace_c, isSheet_r, h1]
theorem neg1 {a : Nat} (ha : a < 6) : (nI a = -nI 1) = False := eq_false (fun q => by
  have h := nbI_e (b := a) (by omega)
  have := h.mp (by unfold nbI; rw [if_neg (by omega)]; exact q)
  omega)
theorem t33_e (hp : p < 6) (hq : m.1 69 (5 * p) = v) (hb : b < 6) {n : Nat} : X10_taken_33 (n + 1) (nI p) (nI b) (nI b) m = some (v, m) := by
  rw [X10_taken_33]
  have := t51 hp hq hb hb
  rw [if_pos rfl] at this
  simp (disch := omega) only [leT, leF, ltT, ltF, eqT, eqF, inT, n_cl, nI_add, pk_mul, n_div, pk_sub, md8, md2, or_true, true_or, or_false, false_or, Bool.true_eq_false, Bool.false_eq_true, L0, L1, L2, L3, L4, L5, L6, L7, L8, L9, L10, L20, L31, L40, L64, L99, L100, L255, L256, L999, L1000, L99999, ↓reduceIte, L11, L12, L13, L14, L15, L16, L30, L48, L160, K1, K2, K3, K4, K5, K7, K8, K9, K15, K17, K20, K27, K37, K48, K99, K255, inR, isPlace_r, isPlace_c, isSheet_r, neg1 hb]
  exact this
theorem t33_s (hb : b < 6) {a n : Nat} (ha : a < 6) (hab : a ≠ b) : X10_taken_33 (n + 1) (nI p) (nI b) (nI a) m = X10_taken_33 n (nI p) (nI b) (if a = 0 then -nI 1 else nI (if a = 3 then 1 else if a = 4 then 2 else 0)) m := by
  rw [X10_taken_33]
  simp (disch := omega) only [leT, leF, ltT, ltF, eqT, eqF, inT, n_cl, nI_add, pk_mul, n_div, pk_sub, md8, md2, or_true, true_or, or_false, false_or, Bool.true_eq_false, Bool.false_eq_true, L0, L1, L2, L3, L4, L5, L6, L7, L8, L9, L10, L20, L31, L40, L64, L99, L100, L255, L256, L999, L1000, L99999, ↓reduceIte, L11, L12, L13, L14, L15, L16, L30, L48, L160, K1, K2, K3, K4, K5, K7, K8, K9, K15, K17, K20, K27, K37, K48, K99, K255, inR, isPlace_r, isPlace_c, isSheet_r, neg1 ha, ove_r ha, bi]
theorem t33_m (hb : b < 6) {n : Nat} : X10_taken_33 (n + 1) (nI p) (nI b) (-nI 1) m = some (-nI 13, m) := by
  rw [X10_taken_33]
  simp (disch := omega) only [leT, leF, ltT, ltF, eqT, eqF, inT, n_cl, nI_add, pk_mul, n_div, pk_sub, md8, md2, or_true, true_or, or_false, false_or, Bool.true_eq_false, Bool.false_eq_true, L0, L1, L2, L3, L4, L5, L6, L7, L8, L9, L10, L20, L31, L40, L64, L99, L100, L255, L256, L999, L1000, L99999, ↓reduceIte, L11, L12, L13, L14, L15, L16, L30, L48, L160, K1, K2, K3, K4, K5, K7, K8, K9, K15, K17, K20, K27, K37, K48, K99, K255, inR, isPlace_r, isPlace_c, isSheet_r]
  exact t51m hb
theorem t33_0 (hp : p < 6) (hq : m.1 69 (5 * p) = v) (hb : b < 6) {n : Nat} : X10_taken_33 (n + 2) (nI p) (nI b) (nI 0) m = some (if b = 0 then v else -nI 13, m) := by
  by_cases q : b = 0
  · subst q
    rw [if_pos rfl]; exact t33_e hp hq (by decide)
  · rw [if_neg q, t33_s hb (by decide) (fun y => q y.symm), if_pos rfl, t33_m hb]
theorem tak_r (hp : p < 6) (hq : m.1 69 (5 * p) = v) (hb : b < 6) {a : Nat} (ha : a < 6) : X10_taken_33 10000 (nI p) (nI b) (nI a) m = some (if unA a b = true then v else -nI 13, m) := by
  show X10_taken_33 (9996 + 4) (nI p) (nI b) (nI a) m = _
  by_cases hab : a = b
  · subst hab
    rw [t33_e hp hq hb]
    simp [unA]
  · by_cases a0 : a = 0
    · subst a0
      rw [t33_0 hp hq hb]
      simp [unA, hab]
      intro y; omega
    · rw [t33_s hb ha hab, if_neg a0]
      by_cases a3 : a = 3
      · subst a3
        rw [if_pos rfl]
        by_cases q : b = 1
        · subst q
          rw [t33_e hp hq hb]
          simp [unA]
        · rw [t33_s hb (by decide) (fun y => q y.symm), if_neg (by decide), if_neg (by decide), if_neg (by decide), t33_0 hp hq hb]
          simp [unA, hab, q]
      · by_cases a4 : a = 4
        · subst a4
          rw [if_neg (by decide), if_pos rfl]
          by_cases q : b = 2
          · subst q
            rw [t33_e hp hq hb]
            simp [unA]
          · rw [t33_s hb (by decide) (fun y => q y.symm), if_neg (by decide), if_neg (by decide), if_neg (by decide), t33_0 hp hq hb]
            simp [unA, hab, q]
        · rw [if_neg a3, if_neg a4, t33_0 hp hq hb]
          simp [unA, hab, a0, a3, a4]
end
theorem o_taken : ob_taken Iv := by
  rintro c nt z m a1 a2 hc ⟨cd, r, rk, G, H, tp, n, ve, hv, hE, hW⟩
  have bad : Iv (c + 1) nt z m := Iv_0 hv hE hW
  obtain ⟨w1, w2, w3, w4, w5, w6, w7, w8⟩ := hW
  have g0 := w4.1
  have pc := fun x => isPerson_c g0 x m (w2.1 0 (by decide))
  have pr := fun x => isOne_r g0 x m w3.1
  rcases dich a2 6 (by decide) with ⟨k, hk, rfl⟩ | ⟨d0, d⟩
  · rcases dich a1 (G 0 0) (by omega) with ⟨p, hp, rfl⟩ | d
    · have hkp := (w4.2.2.2 p (by omega)).1
      have s1 : m.1 6 p = nI (G 1 p) := w2.2 1 p (by decide) (by decide) (by omega)
      have s2 : m.1 7 p = nI (G 2 p) := w2.2 2 p (by decide) (by decide) (by omega)
      have k1 := w3.2.2.2.2 p hp
      have t := tak_r (p := p) (b := k) (by omega) (w3.2.2.2.1 p (by omega)).1 hk (show G 1 p < 6 by omega)
      have u := und_c (a := G 1 p) (b := k) (by omega) hk m
      refine ⟨if unA (G 1 p) k = true then nI (G 2 p) else -nI 13, m, m, ?_, ?_, bad⟩
      · unfold X9_taken
        rcases hb : unA (G 1 p) k with _ | _
        · rw [hb] at u
          simp (disch := omega) only [leT, leF, ltT, ltF, eqT, eqF, inT, n_cl, nI_add, pk_mul, n_div, pk_sub, md8, md2, or_true, true_or, or_false, false_or, Bool.true_eq_false, Bool.false_eq_true, L0, L1, L2, L3, L4, L5, L6, L7, L8, L9, L10, L20, L31, L40, L64, L99, L100, L255, L256, L999, L1000, L99999, ↓reduceIte, L11, L12, L13, L14, L15, L16, L30, L48, L160, K1, K2, K3, K4, K5, K7, K8, K9, K15, K17, K20, K27, K37, K48, K99, K255, inR, isPlace_r, isPlace_c, isSheet_r, kindB hk, bi, pc, s1, u, b01]
        · rw [hb] at u
          simp (disch := omega) only [leT, leF, ltT, ltF, eqT, eqF, inT, n_cl, nI_add, pk_mul, n_div, pk_sub, md8, md2, or_true, true_or, or_false, false_or, Bool.true_eq_false, Bool.false_eq_true, L0, L1, L2, L3, L4, L5, L6, L7, L8, L9, L10, L20, L31, L40, L64, L99, L100, L255, L256, L999, L1000, L99999, ↓reduceIte, L11, L12, L13, L14, L15, L16, L30, L48, L160, K1, K2, K3, K4, K5, K7, K8, K9, K15, K17, K20, K27, K37, K48, K99, K255, inR, isPlace_r, isPlace_c, isSheet_r, kindB hk, bi, pc, s1, s2, u, b01]
      · unfold X10_taken
        simp (disch := omega) only [leT, leF, ltT, ltF, eqT, eqF, inT, n_cl, nI_add, pk_mul, n_div, pk_sub, md8, md2, or_true, true_or, or_false, false_or, Bool.true_eq_false, Bool.false_eq_true, L0, L1, L2, L3, L4, L5, L6, L7, L8, L9, L10, L20, L31, L40, L64, L99, L100, L255, L256, L999, L1000, L99999, ↓reduceIte, L11, L12, L13, L14, L15, L16, L30, L48, L160, K1, K2, K3, K4, K5, K7, K8, K9, K15, K17, K20, K27, K37, K48, K99, K255, inR, isPlace_r, isPlace_c, isSheet_r, bi, pr, k1]
        exact t
    · refine ⟨-nI 11, m, m, ?_, ?_, bad⟩
      · unfold X9_taken
        simp (disch := omega) only [leT, leF, ltT, ltF, eqT, eqF, inT, n_cl, nI_add, pk_mul, n_div, pk_sub, md8, md2, or_true, true_or, or_false, false_or, Bool.true_eq_false, Bool.false_eq_true, L0, L1, L2, L3, L4, L5, L6, L7, L8, L9, L10, L20, L31, L40, L64, L99, L100, L255, L256, L999, L1000, L99999, ↓reduceIte, L11, L12, L13, L14, L15, L16, L30, L48, L160, K1, K2, K3, K4, K5, K7, K8, K9, K15, K17, K20, K27, K37, K48, K99, K255, inR, isPlace_r, isPlace_c, isSheet_r, kindB hk, bi, pc, d.1]
      · unfold X10_taken
        simp (disch := omega) only [leT, leF, ltT, ltF, eqT, eqF, inT, n_cl, nI_add, pk_mul, n_div, pk_sub, md8, md2, or_true, true_or, or_false, false_or, Bool.true_eq_false, Bool.false_eq_true, L0, L1, L2, L3, L4, L5, L6, L7, L8, L9, L10, L20, L31, L40, L64, L99, L100, L255, L256, L999, L1000, L99999, ↓reduceIte, L11, L12, L13, L14, L15, L16, L30, L48, L160, K1, K2, K3, K4, K5, K7, K8, K9, K15, K17, K20, K27, K37, K48, K99, K255, inR, isPlace_r, isPlace_c, isSheet_r, bi, pr, d.1]
  · refine ⟨-nI 2, m, m, ?_, ?_, bad⟩
    · unfold X9_taken X1_isKind
      rcases d with d1 | ⟨d1, d2, d3, d4⟩
      · simp (disch := omega) only [leT, leF, ltT, ltF, eqT, eqF, inT, n_cl, nI_add, pk_mul, n_div, pk_sub, md8, md2, or_true, true_or, or_false, false_or, Bool.true_eq_false, Bool.false_eq_true, L0, L1, L2, L3, L4, L5, L6, L7, L8, L9, L10, L20, L31, L40, L64, L99, L100, L255, L256, L999, L1000, L99999, ↓reduceIte, L11, L12, L13, L14, L15, L16, L30, L48, L160, K1, K2, K3, K4, K5, K7, K8, K9, K15, K17, K20, K27, K37, K48, K99, K255, inR, isPlace_r, isPlace_c, isSheet_r, bi, d1]
      · simp (disch := omega) only [leT, leF, ltT, ltF, eqT, eqF, inT, n_cl, nI_add, pk_mul, n_div, pk_sub, md8, md2, or_true, true_or, or_false, false_or, Bool.true_eq_false, Bool.false_eq_true, L0, L1, L2, L3, L4, L5, L6, L7, L8, L9, L10, L20, L31, L40, L64, L99, L100, L255, L256, L999, L1000, L99999, ↓reduceIte, L11, L12, L13, L14, L15, L16, L30, L48, L160, K1, K2, K3, K4, K5, K7, K8, K9, K15, K17, K20, K27, K37, K48, K99, K255, inR, isPlace_r, isPlace_c, isSheet_r, bi, d1, ge_out (by decide) d3]
    · unfold X10_taken
      simp (disch := omega) only [leT, leF, ltT, ltF, eqT, eqF, inT, n_cl, nI_add, pk_mul, n_div, pk_sub, md8, md2, or_true, true_or, or_false, false_or, Bool.true_eq_false, Bool.false_eq_true, L0, L1, L2, L3, L4, L5, L6, L7, L8, L9, L10, L20, L31, L40, L64, L99, L100, L255, L256, L999, L1000, L99999, ↓reduceIte, L11, L12, L13, L14, L15, L16, L30, L48, L160, K1, K2, K3, K4, K5, K7, K8, K9, K15, K17, K20, K27, K37, K48, K99, K255, inR, isPlace_r, isPlace_c, isSheet_r, bi, d0]
