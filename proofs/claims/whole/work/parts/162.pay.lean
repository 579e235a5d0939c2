/-! what is told for it -/
def kn (G : Nat → Nat → Nat) (p t : Nat) : Bool := bp (nI (G 4 p)) t
def frA (G : Nat → Nat → Nat) (p : Nat) : Bool := decide (G 1 p = 5) || (decide (G 1 p = 4) && decide (6 < G 2 p))
def payS (cd : Nat → Cd) (r : Nat → Nat) (G : Nat → Nat → Nat) (a b : Nat) (s : Nat × Nat) (p : Nat) : Nat × Nat := if (kn G a p && !kn G b p) = true ∧ takA cd r G b p = true ∧ (s.1 = 9 ∨ worA cd r G a p < s.2) then (p, worA cd r G a p) else s
def payL (cd : Nat → Cd) (r : Nat → Nat) (G : Nat → Nat → Nat) (a b : Nat) : Nat → Nat × Nat
  | 0 => (9, 0)
  | p + 1 => payS cd r G a b (payL cd r G a b p) p
def payB (cd : Nat → Cd) (r : Nat → Nat) (G : Nat → Nat → Nat) (a b : Nat) : Nat := (payL cd r G a b 8).1
def payA (cd : Nat → Cd) (r : Nat → Nat) (G : Nat → Nat → Nat) (a b t : Nat) : Nat := if kn G b t = true ∧ kn G a t = false then (if frA G b = true then 8 else payB cd r G a b) else 9
def nbI (b : Nat) : Int32 := if b = 9 then -nI 1 else nI b
theorem nbI_e {b : Nat} (hb : b ≤ 9) : (nbI b = -nI 1) = (b = 9) := by
  apply propext
  unfold nbI
  by_cases h : b = 9
  · rw [if_pos h]; exact ⟨fun _ => h, fun _ => rfl⟩
  · rw [if_neg h]
    refine ⟨fun q => ?_, fun q => absurd q h⟩
    rcases (show b = 0 ∨ b = 1 ∨ b = 2 ∨ b = 3 ∨ b = 4 ∨ b = 5 ∨ b = 6 ∨ b = 7 ∨ b = 8 by omega) with rfl | rfl | rfl | rfl | rfl | rfl | rfl | rfl | rfl <;> exact absurd q (by decide)
section
variable {cd : Nat → Cd} {r : Nat → Nat} {nt ve f a b t : Nat} {z : Nat → Nat} {m : Mem} {G : Nat → Nat → Nat}
theorem worA_le {p : Nat} (h : G 2 p ≤ 9) : worA cd r G p t ≤ 999 := woK_le h (saN_e (by decide)).2
theorem timA_le {p : Nat} (h : G 2 p ≤ 9) : timA cd r G p t ≤ 999 := tiK_le h (saN_e (by decide)).2
theorem payL_le (h : G 2 a ≤ 9) : ∀ p, p ≤ 8 → (payL cd r G a b p).2 ≤ 999 ∧ ((payL cd r G a b p).1 < 8 ∨ (payL cd r G a b p).1 = 9) := by
  intro p
  induction p with
  | zero => intro _; exact ⟨Nat.zero_le _, .inr rfl⟩
  | succ p ih =>
    intro hp
    rw [payL, payS]
    split
    · exact ⟨worA_le h, .inl (by show p < 8; omega)⟩
    · exact ih (by omega)
theorem known_c {p : Nat} (hp : p < 6) (hR : RF f m G) : X0_isKnown f (nI p) (nI t) m = some (nI (b01 (kn G p t)), m) := by
  have s4 := hR.2 4 p (by decide) (by decide) hp
  unfold X0_isKnown kn
  rcases q : bp (nI (G 4 p)) t with _ | _
  all_goals simp (disch := omega) only [leT, leF, ltT, ltF, eqT, eqF, inT, n_cl, nI_add, pk_mul, n_div, pk_sub, md8, md2, or_true, true_or, or_false, false_or, Bool.true_eq_false, Bool.false_eq_true, L0, L1, L2, L3, L4, L5, L6, L7, L8, L9, L10, L20, L31, L40, L64, L99, L100, L255, L256, L999, L1000, L99999, ↓reduceIte, s4, bp_f, q, b01]
theorem ways_b {p : Nat} (hp : p < 8) : bp (nI (G 4 a) &&& (nI (G 4 b) ^^^ -nI 1)) p = (kn G a p && !kn G b p) := by
  rw [bp_and _ _ (by omega), show (-nI 1 : Int32) = -1 from rfl, bp_neg _ (by omega)]; rfl
theorem payl_c (hG : GO nt 1019 G) (hf : isFo f) (ha : a < 6) (hb : b < 6) : ∀ n p m, p ≤ 8 → 8 - p < n → CE cd r nt z ve m → RF f m G → ∃ m', X2_payment_69 nt z f n (nI a) (nI b) (nbI (payL cd r G a b p).1) (nI (payL cd r G a b p).2) (nI (G 4 a) &&& (nI (G 4 b) ^^^ -nI 1)) (nI p) m = some (nbI (payB cd r G a b), m') ∧ CE cd r nt z ve m' ∧ FrX m m' := by
  intro n
  induction n with
  | zero => intro p m _ h; omega
  | succ n ih =>
    intro p m hp hn hE hR
    rw [X2_payment_69]
    by_cases h8 : p = 8
    · subst h8
      simp (disch := omega) only [leT, leF, ltT, ltF, eqT, eqF, inT, n_cl, nI_add, pk_mul, n_div, pk_sub, md8, md2, or_true, true_or, or_false, false_or, Bool.true_eq_false, Bool.false_eq_true, L0, L1, L2, L3, L4, L5, L6, L7, L8, L9, L10, L20, L31, L40, L64, L99, L100, L255, L256, L999, L1000, L99999, ↓reduceIte]
      exact ⟨m, rfl, hE, FrX_r m⟩
    · have hp8 : p < 8 := by omega
      have h9 := (hG.2.2.2 a ha).2.1
      obtain ⟨l1, l2⟩ := payL_le (cd := cd) (r := r) (b := b) h9 p hp
      have hw := worA_le (cd := cd) (r := r) (t := p) h9
      have hE0 := nbI_e (b := (payL cd r G a b p).1) (by omega)
      by_cases q1 : (kn G a p && !kn G b p) = false
      · have hs : payL cd r G a b (p + 1) = payL cd r G a b p := by rw [payL, payS, if_neg (by rw [q1]; rintro ⟨x, _⟩; exact absurd x (by decide))]
        simp (disch := omega) only [leT, leF, ltT, ltF, eqT, eqF, inT, n_cl, nI_add, pk_mul, n_div, pk_sub, md8, md2, or_true, true_or, or_false, false_or, Bool.true_eq_false, Bool.false_eq_true, L0, L1, L2, L3, L4, L5, L6, L7, L8, L9, L10, L20, L31, L40, L64, L99, L100, L255, L256, L999, L1000, L99999, ↓reduceIte, X2_payment_131, bp_f, ways_b, q1]
        have := ih (p + 1) m (by omega) (by omega) hE hR
        rw [hs] at this
        exact this
      · have q1' : (kn G a p && !kn G b p) = true := by simpa using q1
        obtain ⟨m1, a1, a2, a3⟩ := takes_c (p := b) (t := p) hE hR hG hf hb hp8
        have R1 := FrX_f hf a3 hR
        by_cases q2 : takA cd r G b p = true
        · obtain ⟨m2, b1, b2, b3⟩ := worth_c (p := a) (t := p) a2 R1 hG hf ha hp8
          have R2 := FrX_f hf b3 R1
          by_cases q3 : (payL cd r G a b p).1 = 9
          · have hs : payL cd r G a b (p + 1) = (p, worA cd r G a p) := by rw [payL, payS, if_pos ⟨q1', q2, .inl q3⟩]
            have hn9 : nbI p = nI p := by unfold nbI; rw [if_neg (by omega)]
            obtain ⟨m3, c1, c2, c3⟩ := ih (p + 1) m2 (by omega) (by omega) b2 R2
            simp only [hs, hn9] at c1
            simp (disch := omega) only [leT, leF, ltT, ltF, eqT, eqF, inT, n_cl, nI_add, pk_mul, n_div, pk_sub, md8, md2, or_true, true_or, or_false, false_or, Bool.true_eq_false, Bool.false_eq_true, L0, L1, L2, L3, L4, L5, L6, L7, L8, L9, L10, L20, L31, L40, L64, L99, L100, L255, L256, L999, L1000, L99999, ↓reduceIte, X2_payment_131, X2_payment_123, bp_f, ways_b, q1, a1, b1, bi, q2, b01, hE0, q3]
            exact ⟨m3, c1, c2, FrX_t a3 (FrX_t b3 c3)⟩
          · by_cases q4 : worA cd r G a p < (payL cd r G a b p).2
            · have hs : payL cd r G a b (p + 1) = (p, worA cd r G a p) := by rw [payL, payS, if_pos ⟨q1', q2, .inr q4⟩]
              have hn9 : nbI p = nI p := by unfold nbI; rw [if_neg (by omega)]
              obtain ⟨m3, c1, c2, c3⟩ := ih (p + 1) m2 (by omega) (by omega) b2 R2
              simp only [hs, hn9] at c1
              simp (disch := omega) only [leT, leF, ltT, ltF, eqT, eqF, inT, n_cl, nI_add, pk_mul, n_div, pk_sub, md8, md2, or_true, true_or, or_false, false_or, Bool.true_eq_false, Bool.false_eq_true, L0, L1, L2, L3, L4, L5, L6, L7, L8, L9, L10, L20, L31, L40, L64, L99, L100, L255, L256, L999, L1000, L99999, ↓reduceIte, X2_payment_131, X2_payment_123, bp_f, ways_b, q1, a1, b1, bi, q2, b01, hE0, q3]
              exact ⟨m3, c1, c2, FrX_t a3 (FrX_t b3 c3)⟩
            · have hs : payL cd r G a b (p + 1) = payL cd r G a b p := by rw [payL, payS, if_neg (by rintro ⟨_, _, x⟩; omega)]
              obtain ⟨m3, c1, c2, c3⟩ := ih (p + 1) m2 (by omega) (by omega) b2 R2
              rw [hs] at c1
              simp (disch := omega) only [leT, leF, ltT, ltF, eqT, eqF, inT, n_cl, nI_add, pk_mul, n_div, pk_sub, md8, md2, or_true, true_or, or_false, false_or, Bool.true_eq_false, Bool.false_eq_true, L0, L1, L2, L3, L4, L5, L6, L7, L8, L9, L10, L20, L31, L40, L64, L99, L100, L255, L256, L999, L1000, L99999, ↓reduceIte, X2_payment_131, X2_payment_123, bp_f, ways_b, q1, a1, b1, bi, q2, b01, hE0, q3]
              exact ⟨m3, c1, c2, FrX_t a3 (FrX_t b3 c3)⟩
        · have hs : payL cd r G a b (p + 1) = payL cd r G a b p := by rw [payL, payS, if_neg (by rintro ⟨_, x, _⟩; exact q2 x)]
          obtain ⟨m3, c1, c2, c3⟩ := ih (p + 1) m1 (by omega) (by omega) a2 R1
          rw [hs] at c1
          simp (disch := omega) only [leT, leF, ltT, ltF, eqT, eqF, inT, n_cl, nI_add, pk_mul, n_div, pk_sub, md8, md2, or_true, true_or, or_false, false_or, Bool.true_eq_false, Bool.false_eq_true, L0, L1, L2, L3, L4, L5, L6, L7, L8, L9, L10, L20, L31, L40, L64, L99, L100, L255, L256, L999, L1000, L99999, ↓reduceIte, X2_payment_131, bp_f, ways_b, q1, a1, bi, q2, b01]
          exact ⟨m3, c1, c2, FrX_t a3 c3⟩
theorem free_c {p : Nat} (hG : GO nt 1019 G) (hp : p < 6) : X1_tellsFree (nI (G 1 p)) (nI (G 2 p)) m = some (nI (b01 (frA G p)), m) := by
  have h := hG.2.2.2 p hp
  unfold X1_tellsFree frA
  by_cases q1 : G 1 p = 5
  · simp (disch := omega) only [leT, leF, ltT, ltF, eqT, eqF, inT, n_cl, nI_add, pk_mul, n_div, pk_sub, md8, md2, or_true, true_or, or_false, false_or, Bool.true_eq_false, Bool.false_eq_true, L0, L1, L2, L3, L4, L5, L6, L7, L8, L9, L10, L20, L31, L40, L64, L99, L100, L255, L256, L999, L1000, L99999, ↓reduceIte, q1, b01, decide_true, Bool.and_true, Bool.true_and, Bool.false_and, Bool.and_false, Bool.or_true, Bool.true_or, Bool.or_false, Bool.false_or, Bool.not_true, Bool.not_false, show ¬ (1 = 0) by decide, show ¬ (2 = 0) by decide, show ¬ (3 = 0) by decide, show ¬ (4 = 0) by decide, show ¬ (5 = 0) by decide, show ¬ (2 = 1) by decide, show ¬ (3 = 1) by decide, show ¬ (4 = 1) by decide, show ¬ (5 = 1) by decide, show ¬ (3 = 2) by decide, show ¬ (4 = 2) by decide, show ¬ (5 = 2) by decide, show ¬ (4 = 3) by decide, show ¬ (5 = 3) by decide, show ¬ (5 = 4) by decide]
  · by_cases q2 : G 1 p = 4
    · by_cases q3 : 6 < G 2 p
      · simp (disch := omega) only [leT, leF, ltT, ltF, eqT, eqF, inT, n_cl, nI_add, pk_mul, n_div, pk_sub, md8, md2, or_true, true_or, or_false, false_or, Bool.true_eq_false, Bool.false_eq_true, L0, L1, L2, L3, L4, L5, L6, L7, L8, L9, L10, L20, L31, L40, L64, L99, L100, L255, L256, L999, L1000, L99999, ↓reduceIte, q1, q2, q3, b01, decide_true, decide_false, Bool.and_true, Bool.true_and, Bool.false_and, Bool.and_false, Bool.or_true, Bool.true_or, Bool.or_false, Bool.false_or, Bool.not_true, Bool.not_false, show ¬ (1 = 0) by decide, show ¬ (2 = 0) by decide, show ¬ (3 = 0) by decide, show ¬ (4 = 0) by decide, show ¬ (5 = 0) by decide, show ¬ (2 = 1) by decide, show ¬ (3 = 1) by decide, show ¬ (4 = 1) by decide, show ¬ (5 = 1) by decide, show ¬ (3 = 2) by decide, show ¬ (4 = 2) by decide, show ¬ (5 = 2) by decide, show ¬ (4 = 3) by decide, show ¬ (5 = 3) by decide, show ¬ (5 = 4) by decide]
      · simp (disch := omega) only [leT, leF, ltT, ltF, eqT, eqF, inT, n_cl, nI_add, pk_mul, n_div, pk_sub, md8, md2, or_true, true_or, or_false, false_or, Bool.true_eq_false, Bool.false_eq_true, L0, L1, L2, L3, L4, L5, L6, L7, L8, L9, L10, L20, L31, L40, L64, L99, L100, L255, L256, L999, L1000, L99999, ↓reduceIte, q1, q2, q3, b01, decide_true, decide_false, Bool.and_true, Bool.true_and, Bool.false_and, Bool.and_false, Bool.or_true, Bool.true_or, Bool.or_false, Bool.false_or, Bool.not_true, Bool.not_false, show ¬ (1 = 0) by decide, show ¬ (2 = 0) by decide, show ¬ (3 = 0) by decide, show ¬ (4 = 0) by decide, show ¬ (5 = 0) by decide, show ¬ (2 = 1) by decide, show ¬ (3 = 1) by decide, show ¬ (4 = 1) by decide, show ¬ (5 = 1) by decide, show ¬ (3 = 2) by decide, show ¬ (4 = 2) by decide, show ¬ (5 = 2) by decide, show ¬ (4 = 3) by decide, show ¬ (5 = 3) by decide, show ¬ (5 = 4) by decide, show ¬ (4 = 5) by decide]
    · simp (disch := omega) only [leT, leF, ltT, ltF, eqT, eqF, inT, n_cl, nI_add, pk_mul, n_div, pk_sub, md8, md2, or_true, true_or, or_false, false_or, Bool.true_eq_false, Bool.false_eq_true, L0, L1, L2, L3, L4, L5, L6, L7, L8, L9, L10, L20, L31, L40, L64, L99, L100, L255, L256, L999, L1000, L99999, ↓reduceIte, q1, q2, b01, decide_false, Bool.and_true, Bool.true_and, Bool.false_and, Bool.and_false, Bool.or_true, Bool.true_or, Bool.or_false, Bool.false_or, Bool.not_true, Bool.not_false, show ¬ (1 = 0) by decide, show ¬ (2 = 0) by decide, show ¬ (3 = 0) by decide, show ¬ (4 = 0) by decide, show ¬ (5 = 0) by decide, show ¬ (2 = 1) by decide, show ¬ (3 = 1) by decide, show ¬ (4 = 1) by decide, show ¬ (5 = 1) by decide, show ¬ (3 = 2) by decide, show ¬ (4 = 2) by decide, show ¬ (5 = 2) by decide, show ¬ (4 = 3) by decide, show ¬ (5 = 3) by decide, show ¬ (5 = 4) by decide]
theorem pay_c (hE : CE cd r nt z ve m) (hR : RF f m G) (hG : GO nt 1019 G) (hf : isFo f) (ha : a < 6) (hb : b < 6) : ∃ m', X2_payment nt z f (nI a) (nI b) (nI t) m = some (nbI (payA cd r G a b t), m') ∧ CE cd r nt z ve m' ∧ FrX m m' := by
  unfold X2_payment payA
  have k1 := fun (p : Nat) (hp : p < 6) => known_c (t := t) hp hR
  have s1 := hR.2 1 b (by decide) (by decide) hb
  have s2 := hR.2 2 b (by decide) (by decide) hb
  have s4 := hR.2 4 a (by decide) (by decide) ha
  have s4' := hR.2 4 b (by decide) (by decide) hb
  by_cases q1 : kn G b t = true
  · by_cases q2 : kn G a t = true
    · simp (disch := omega) only [leT, leF, ltT, ltF, eqT, eqF, inT, n_cl, nI_add, pk_mul, n_div, pk_sub, md8, md2, or_true, true_or, or_false, false_or, Bool.true_eq_false, Bool.false_eq_true, L0, L1, L2, L3, L4, L5, L6, L7, L8, L9, L10, L20, L31, L40, L64, L99, L100, L255, L256, L999, L1000, L99999, ↓reduceIte, k1 b hb, k1 a ha, bi, q1, q2, b01, and_false, nbI]
      exact ⟨m, rfl, hE, FrX_r m⟩
    · by_cases q3 : frA G b = true
      · simp (disch := omega) only [leT, leF, ltT, ltF, eqT, eqF, inT, n_cl, nI_add, pk_mul, n_div, pk_sub, md8, md2, or_true, true_or, or_false, false_or, Bool.true_eq_false, Bool.false_eq_true, L0, L1, L2, L3, L4, L5, L6, L7, L8, L9, L10, L20, L31, L40, L64, L99, L100, L255, L256, L999, L1000, L99999, ↓reduceIte, k1 b hb, k1 a ha, bi, q1, q2, b01, and_self, s1, s2, free_c hG hb, q3]
        exact ⟨m, rfl, hE, FrX_r m⟩
      · simp (disch := omega) only [leT, leF, ltT, ltF, eqT, eqF, inT, n_cl, nI_add, pk_mul, n_div, pk_sub, md8, md2, or_true, true_or, or_false, false_or, Bool.true_eq_false, Bool.false_eq_true, L0, L1, L2, L3, L4, L5, L6, L7, L8, L9, L10, L20, L31, L40, L64, L99, L100, L255, L256, L999, L1000, L99999, ↓reduceIte, k1 b hb, k1 a ha, bi, q1, q2, b01, and_self, s1, s2, s4, s4', free_c hG hb, q3]
        exact payl_c hG hf ha hb 10000 0 m (by decide) (by decide) hE hR
  · simp (disch := omega) only [leT, leF, ltT, ltF, eqT, eqF, inT, n_cl, nI_add, pk_mul, n_div, pk_sub, md8, md2, or_true, true_or, or_false, false_or, Bool.true_eq_false, Bool.false_eq_true, L0, L1, L2, L3, L4, L5, L6, L7, L8, L9, L10, L20, L31, L40, L64, L99, L100, L255, L256, L999, L1000, L99999, ↓reduceIte, k1 b hb, bi, q1, b01, false_and, nbI]
    exact ⟨m, rfl, hE, FrX_r m⟩
end
