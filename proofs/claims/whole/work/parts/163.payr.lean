/-! what is told for it: the reference; deals -/
theorem or_n : ∀ x, x < 256 → ∀ t, t < 8 → nI x ||| (nI 1 <<< (nI t &&& nI 31)) = nI (x ||| 2 ^ t) ∧ (x ||| 2 ^ t) < 256 := by decide +kernel
def dealA (cd : Nat → Cd) (r : Nat → Nat) (G : Nat → Nat → Nat) (a b t pay : Nat) : Nat → Nat → Nat := fun j p =>
  if j = 6 ∧ p = a then min 99999 (G 6 a + if pay = 8 then 0 else timA cd r G a pay)
  else if j = 6 ∧ p = b then min 99999 (G 6 b + timA cd r G b t)
  else if j = 4 ∧ p = a then G 4 a ||| 2 ^ t
  else if j = 4 ∧ p = b then (if pay = 8 then G 4 b else G 4 b ||| 2 ^ pay) else G j p
/-- all but what is known and the minutes -/
def Sm (G G' : Nat → Nat → Nat) : Prop := ∀ j p, j ≠ 4 → j ≠ 6 → G' j p = G j p
section
variable {cd : Nat → Cd} {r : Nat → Nat} {nt ve f a b t pay R : Nat} {z : Nat → Nat} {m : Mem} {G : Nat → Nat → Nat}
theorem deal_s : Sm G (dealA cd r G a b t pay) := by
  intro j p h4 h6
  unfold dealA
  rw [if_neg (by omega), if_neg (by omega), if_neg (by omega), if_neg (by omega)]
theorem deal_o (hG : GO nt R G) (ha : a < 6) (hb : b < 6) (ht : t < 8) (hy : pay ≤ 8) : GO nt R (dealA cd r G a b t pay) := by
  obtain ⟨g1, g2, g3, g4⟩ := hG
  have s := deal_s (cd := cd) (r := r) (G := G) (a := a) (b := b) (t := t) (pay := pay)
  refine ⟨by rw [s 0 0 (by decide) (by decide)]; exact g1, by rw [s 0 1 (by decide) (by decide)]; exact g2, by rw [s 0 2 (by decide) (by decide)]; exact g3, fun p hp => ?_⟩
  obtain ⟨p1, p2, p3, p4, p5, p6⟩ := g4 p hp
  refine ⟨by rw [s 1 p (by decide) (by decide)]; exact p1, by rw [s 2 p (by decide) (by decide)]; exact p2, by rw [s 3 p (by decide) (by decide)]; exact p3, ?_, by rw [s 5 p (by decide) (by decide)]; exact p5, ?_⟩
  · unfold dealA
    rw [if_neg (by omega), if_neg (by omega)]
    by_cases q : p = a
    · subst q
      rw [if_pos ⟨rfl, rfl⟩]
      have := (or_n (G 4 p) (by omega) t ht).2
      omega
    · rw [if_neg (by omega)]
      by_cases q2 : p = b
      · subst q2
        rw [if_pos ⟨rfl, rfl⟩]
        by_cases q3 : pay = 8
        · rw [if_pos q3]; exact p4
        · rw [if_neg q3]
          have := (or_n (G 4 p) (by omega) pay (by omega)).2
          omega
      · rw [if_neg (by omega)]; exact p4
  · unfold dealA
    by_cases q : p = a
    · rw [if_pos ⟨rfl, q⟩]; omega
    · rw [if_neg (by omega)]
      by_cases q2 : p = b
      · rw [if_pos ⟨rfl, q2⟩]; omega
      · rw [if_neg (by omega), if_neg (by omega), if_neg (by omega)]; exact p6
/-! the reference -/
theorem payl_r (hG : GO nt R G) (ha : a < G 0 0) (hb : b < G 0 0) : ∀ n p m, p ≤ 8 → 8 - p < n → RE cd r nt m → RR m G → ∃ m', X10_payOf_47 n (nI a) (nI b) (nbI (payL cd r G a b p).1) (nI (payL cd r G a b p).2) (nI p) m = some (nbI (payB cd r G a b), m') ∧ FrA m m' := by
  intro n
  induction n with
  | zero => intro p m _ h; omega
  | succ n ih =>
    intro p m hp hn hE hR
    have g0 := hG.1
    rw [X10_payOf_47]
    by_cases h8 : p = 8
    · subst h8
      simp (disch := omega) only [leT, leF, ltT, ltF, eqT, eqF, inT, n_cl, nI_add, pk_mul, n_div, pk_sub, md8, md2, or_true, true_or, or_false, false_or, Bool.true_eq_false, Bool.false_eq_true, L0, L1, L2, L3, L4, L5, L6, L7, L8, L9, L10, L20, L31, L40, L64, L99, L100, L255, L256, L999, L1000, L99999, ↓reduceIte]
      exact ⟨m, rfl, FrA_r m⟩
    · have hp8 : p < 8 := by omega
      have h9 := (hG.2.2.2 a (by omega)).2.1
      obtain ⟨l1, l2⟩ := payL_le (cd := cd) (r := r) (b := b) h9 p hp
      have hw := worA_le (cd := cd) (r := r) (t := p) h9
      have hE0 := nbI_e (b := (payL cd r G a b p).1) (by omega)
      have ka := (hR.2.2.2.1 a (by omega)).2.2.1
      have kb := (hR.2.2.2.1 b (by omega)).2.2.1
      have k1 := knows_r (show a < 6 by omega) m
      have k2 := knows_r (show b < 6 by omega) m
      have o1 := bp_one (nI (G 4 a) &&& (nI (G 4 b) ^^^ -nI 1)) (show p < 32 by omega)
      rw [ways_b hp8] at o1
      by_cases q1 : (kn G a p && !kn G b p) = false
      · have hs : payL cd r G a b (p + 1) = payL cd r G a b p := by rw [payL, payS, if_neg (by rw [q1]; rintro ⟨x, _⟩; exact absurd x (by decide))]
        simp (disch := omega) only [leT, leF, ltT, ltF, eqT, eqF, inT, n_cl, nI_add, pk_mul, n_div, pk_sub, md8, md2, or_true, true_or, or_false, false_or, Bool.true_eq_false, Bool.false_eq_true, L0, L1, L2, L3, L4, L5, L6, L7, L8, L9, L10, L20, L31, L40, L64, L99, L100, L255, L256, L999, L1000, L99999, ↓reduceIte, X10_payOf_115, k1, k2, bi, ka, kb, o1, q1]
        have := ih (p + 1) m (by omega) (by omega) hE hR
        rw [hs] at this
        exact this
      · have q1' : (kn G a p && !kn G b p) = true := by simpa using q1
        obtain ⟨m1, a1, a3⟩ := takes_r (p := b) (t := p) hE hR hG hb hp8
        have R1 := FrA_rr a3 hR
        have E1 := FrA_re a3 hE
        by_cases q2 : takA cd r G b p = true
        · obtain ⟨m2, b1, b3⟩ := worth_r (p := a) (t := p) E1 R1 hG ha hp8
          have R2 := FrA_rr b3 R1
          have E2 := FrA_re b3 E1
          by_cases q3 : (payL cd r G a b p).1 = 9
          · have hs : payL cd r G a b (p + 1) = (p, worA cd r G a p) := by rw [payL, payS, if_pos ⟨q1', q2, .inl q3⟩]
            have hn9 : nbI p = nI p := by unfold nbI; rw [if_neg (by omega)]
            obtain ⟨m3, c1, c3⟩ := ih (p + 1) m2 (by omega) (by omega) E2 R2
            simp only [hs, hn9] at c1
            simp (disch := omega) only [leT, leF, ltT, ltF, eqT, eqF, inT, n_cl, nI_add, pk_mul, n_div, pk_sub, md8, md2, or_true, true_or, or_false, false_or, Bool.true_eq_false, Bool.false_eq_true, L0, L1, L2, L3, L4, L5, L6, L7, L8, L9, L10, L20, L31, L40, L64, L99, L100, L255, L256, L999, L1000, L99999, ↓reduceIte, X10_payOf_115, X10_payOf_107, k1, k2, ka, kb, o1, q1, a1, b1, bi, q2, b01, hE0, q3]
            exact ⟨m3, c1, FrA_t a3 (FrA_t b3 c3)⟩
          · by_cases q4 : worA cd r G a p < (payL cd r G a b p).2
            · have hs : payL cd r G a b (p + 1) = (p, worA cd r G a p) := by rw [payL, payS, if_pos ⟨q1', q2, .inr q4⟩]
              have hn9 : nbI p = nI p := by unfold nbI; rw [if_neg (by omega)]
              obtain ⟨m3, c1, c3⟩ := ih (p + 1) m2 (by omega) (by omega) E2 R2
              simp only [hs, hn9] at c1
              simp (disch := omega) only [leT, leF, ltT, ltF, eqT, eqF, inT, n_cl, nI_add, pk_mul, n_div, pk_sub, md8, md2, or_true, true_or, or_false, false_or, Bool.true_eq_false, Bool.false_eq_true, L0, L1, L2, L3, L4, L5, L6, L7, L8, L9, L10, L20, L31, L40, L64, L99, L100, L255, L256, L999, L1000, L99999, ↓reduceIte, X10_payOf_115, X10_payOf_107, k1, k2, ka, kb, o1, q1, a1, b1, bi, q2, b01, hE0, q3]
              exact ⟨m3, c1, FrA_t a3 (FrA_t b3 c3)⟩
            · have hs : payL cd r G a b (p + 1) = payL cd r G a b p := by rw [payL, payS, if_neg (by rintro ⟨_, _, x⟩; omega)]
              obtain ⟨m3, c1, c3⟩ := ih (p + 1) m2 (by omega) (by omega) E2 R2
              rw [hs] at c1
              simp (disch := omega) only [leT, leF, ltT, ltF, eqT, eqF, inT, n_cl, nI_add, pk_mul, n_div, pk_sub, md8, md2, or_true, true_or, or_false, false_or, Bool.true_eq_false, Bool.false_eq_true, L0, L1, L2, L3, L4, L5, L6, L7, L8, L9, L10, L20, L31, L40, L64, L99, L100, L255, L256, L999, L1000, L99999, ↓reduceIte, X10_payOf_115, X10_payOf_107, k1, k2, ka, kb, o1, q1, a1, b1, bi, q2, b01, hE0, q3]
              exact ⟨m3, c1, FrA_t a3 (FrA_t b3 c3)⟩
        · have hs : payL cd r G a b (p + 1) = payL cd r G a b p := by rw [payL, payS, if_neg (by rintro ⟨_, x, _⟩; exact q2 x)]
          obtain ⟨m3, c1, c3⟩ := ih (p + 1) m1 (by omega) (by omega) E1 R1
          rw [hs] at c1
          simp (disch := omega) only [leT, leF, ltT, ltF, eqT, eqF, inT, n_cl, nI_add, pk_mul, n_div, pk_sub, md8, md2, or_true, true_or, or_false, false_or, Bool.true_eq_false, Bool.false_eq_true, L0, L1, L2, L3, L4, L5, L6, L7, L8, L9, L10, L20, L31, L40, L64, L99, L100, L255, L256, L999, L1000, L99999, ↓reduceIte, X10_payOf_115, k1, k2, ka, kb, o1, q1, a1, bi, q2, b01]
          exact ⟨m3, c1, FrA_t a3 c3⟩
theorem free_r {p : Nat} (hR : RR m G) (hG : GO nt R G) (hp : p < G 0 0) : X10_isFree (nI p) m = some (nI (b01 (frA G p)), m) := by
  have g0 := hG.1
  have h := hG.2.2.2 p (by omega)
  have k1 := hR.2.2.2.2 p hp
  have k2 := (hR.2.2.2.1 p (by omega)).1
  unfold X10_isFree frA
  by_cases q1 : G 1 p = 5
  · simp (disch := omega) only [leT, leF, ltT, ltF, eqT, eqF, inT, n_cl, nI_add, pk_mul, n_div, pk_sub, md8, md2, or_true, true_or, or_false, false_or, Bool.true_eq_false, Bool.false_eq_true, L0, L1, L2, L3, L4, L5, L6, L7, L8, L9, L10, L20, L31, L40, L64, L99, L100, L255, L256, L999, L1000, L99999, ↓reduceIte, k1, q1, b01, decide_true, Bool.and_true, Bool.true_and, Bool.false_and, Bool.and_false, Bool.or_true, Bool.true_or, Bool.or_false, Bool.false_or, Bool.not_true, Bool.not_false, show ¬ (1 = 0) by decide, show ¬ (2 = 0) by decide, show ¬ (3 = 0) by decide, show ¬ (4 = 0) by decide, show ¬ (5 = 0) by decide, show ¬ (2 = 1) by decide, show ¬ (3 = 1) by decide, show ¬ (4 = 1) by decide, show ¬ (5 = 1) by decide, show ¬ (3 = 2) by decide, show ¬ (4 = 2) by decide, show ¬ (5 = 2) by decide, show ¬ (4 = 3) by decide, show ¬ (5 = 3) by decide, show ¬ (5 = 4) by decide]
  · by_cases q2 : G 1 p = 4
    · by_cases q3 : 6 < G 2 p
      · simp (disch := omega) only [leT, leF, ltT, ltF, eqT, eqF, inT, n_cl, nI_add, pk_mul, n_div, pk_sub, md8, md2, or_true, true_or, or_false, false_or, Bool.true_eq_false, Bool.false_eq_true, L0, L1, L2, L3, L4, L5, L6, L7, L8, L9, L10, L20, L31, L40, L64, L99, L100, L255, L256, L999, L1000, L99999, ↓reduceIte, k1, k2, q1, q2, q3, b01, decide_true, decide_false, Bool.and_true, Bool.true_and, Bool.false_and, Bool.and_false, Bool.or_true, Bool.true_or, Bool.or_false, Bool.false_or, Bool.not_true, Bool.not_false, show ¬ (1 = 0) by decide, show ¬ (2 = 0) by decide, show ¬ (3 = 0) by decide, show ¬ (4 = 0) by decide, show ¬ (5 = 0) by decide, show ¬ (2 = 1) by decide, show ¬ (3 = 1) by decide, show ¬ (4 = 1) by decide, show ¬ (5 = 1) by decide, show ¬ (3 = 2) by decide, show ¬ (4 = 2) by decide, show ¬ (5 = 2) by decide, show ¬ (4 = 3) by decide, show ¬ (5 = 3) by decide, show ¬ (5 = 4) by decide]
      · simp (disch := omega) only [leT, leF, ltT, ltF, eqT, eqF, inT, n_cl, nI_add, pk_mul, n_div, pk_sub, md8, md2, or_true, true_or, or_false, false_or, Bool.true_eq_false, Bool.false_eq_true, L0, L1, L2, L3, L4, L5, L6, L7, L8, L9, L10, L20, L31, L40, L64, L99, L100, L255, L256, L999, L1000, L99999, ↓reduceIte, k1, k2, q1, q2, q3, b01, decide_true, decide_false, Bool.and_true, Bool.true_and, Bool.false_and, Bool.and_false, Bool.or_true, Bool.true_or, Bool.or_false, Bool.false_or, Bool.not_true, Bool.not_false, show ¬ (1 = 0) by decide, show ¬ (2 = 0) by decide, show ¬ (3 = 0) by decide, show ¬ (4 = 0) by decide, show ¬ (5 = 0) by decide, show ¬ (2 = 1) by decide, show ¬ (3 = 1) by decide, show ¬ (4 = 1) by decide, show ¬ (5 = 1) by decide, show ¬ (3 = 2) by decide, show ¬ (4 = 2) by decide, show ¬ (5 = 2) by decide, show ¬ (4 = 3) by decide, show ¬ (5 = 3) by decide, show ¬ (5 = 4) by decide, show ¬ (4 = 5) by decide]
    · simp (disch := omega) only [leT, leF, ltT, ltF, eqT, eqF, inT, n_cl, nI_add, pk_mul, n_div, pk_sub, md8, md2, or_true, true_or, or_false, false_or, Bool.true_eq_false, Bool.false_eq_true, L0, L1, L2, L3, L4, L5, L6, L7, L8, L9, L10, L20, L31, L40, L64, L99, L100, L255, L256, L999, L1000, L99999, ↓reduceIte, k1, q1, q2, b01, decide_false, Bool.and_true, Bool.true_and, Bool.false_and, Bool.and_false, Bool.or_true, Bool.true_or, Bool.or_false, Bool.false_or, Bool.not_true, Bool.not_false, show ¬ (1 = 0) by decide, show ¬ (2 = 0) by decide, show ¬ (3 = 0) by decide, show ¬ (4 = 0) by decide, show ¬ (5 = 0) by decide, show ¬ (2 = 1) by decide, show ¬ (3 = 1) by decide, show ¬ (4 = 1) by decide, show ¬ (5 = 1) by decide, show ¬ (3 = 2) by decide, show ¬ (4 = 2) by decide, show ¬ (5 = 2) by decide, show ¬ (4 = 3) by decide, show ¬ (5 = 3) by decide, show ¬ (5 = 4) by decide]
theorem pay_r (hE : RE cd r nt m) (hR : RR m G) (hG : GO nt R G) (ha : a < G 0 0) (hb : b < G 0 0) : ∃ m', X10_payOf (nI a) (nI b) (nI t) m = some (nbI (payA cd r G a b t), m') ∧ FrA m m' := by
  have g0 := hG.1
  unfold X10_payOf payA
  have ka := (hR.2.2.2.1 a (by omega)).2.2.1
  have kb := (hR.2.2.2.1 b (by omega)).2.2.1
  have k1 := knows_r (show a < 6 by omega) m
  have k2 := knows_r (show b < 6 by omega) m
  have hka : bp (nI (G 4 a)) t = kn G a t := rfl
  have hkb : bp (nI (G 4 b)) t = kn G b t := rfl
  by_cases q1 : kn G b t = true
  · by_cases q2 : kn G a t = true
    · simp (disch := omega) only [leT, leF, ltT, ltF, eqT, eqF, inT, n_cl, nI_add, pk_mul, n_div, pk_sub, md8, md2, or_true, true_or, or_false, false_or, Bool.true_eq_false, Bool.false_eq_true, L0, L1, L2, L3, L4, L5, L6, L7, L8, L9, L10, L20, L31, L40, L64, L99, L100, L255, L256, L999, L1000, L99999, ↓reduceIte, k1, k2, ka, kb, bi, bp_f, bp_t, hka, hkb, q1, q2, b01, and_false, nbI]
      exact ⟨m, rfl, FrA_r m⟩
    · by_cases q3 : frA G b = true
      · simp (disch := omega) only [leT, leF, ltT, ltF, eqT, eqF, inT, n_cl, nI_add, pk_mul, n_div, pk_sub, md8, md2, or_true, true_or, or_false, false_or, Bool.true_eq_false, Bool.false_eq_true, L0, L1, L2, L3, L4, L5, L6, L7, L8, L9, L10, L20, L31, L40, L64, L99, L100, L255, L256, L999, L1000, L99999, ↓reduceIte, k1, k2, ka, kb, bi, bp_f, bp_t, hka, hkb, q1, q2, b01, and_self, free_r hR hG hb, q3]
        exact ⟨m, rfl, FrA_r m⟩
      · simp (disch := omega) only [leT, leF, ltT, ltF, eqT, eqF, inT, n_cl, nI_add, pk_mul, n_div, pk_sub, md8, md2, or_true, true_or, or_false, false_or, Bool.true_eq_false, Bool.false_eq_true, L0, L1, L2, L3, L4, L5, L6, L7, L8, L9, L10, L20, L31, L40, L64, L99, L100, L255, L256, L999, L1000, L99999, ↓reduceIte, k1, k2, ka, kb, bi, bp_f, bp_t, hka, hkb, q1, q2, b01, and_self, free_r hR hG hb, q3]
        exact payl_r hG ha hb 10000 0 m (by decide) (by decide) hE hR
  · simp (disch := omega) only [leT, leF, ltT, ltF, eqT, eqF, inT, n_cl, nI_add, pk_mul, n_div, pk_sub, md8, md2, or_true, true_or, or_false, false_or, Bool.true_eq_false, Bool.false_eq_true, L0, L1, L2, L3, L4, L5, L6, L7, L8, L9, L10, L20, L31, L40, L64, L99, L100, L255, L256, L999, L1000, L99999, ↓reduceIte, k1, k2, kb, bi, bp_f, hkb, q1, b01, false_and, nbI]
    exact ⟨m, rfl, FrA_r m⟩
end
