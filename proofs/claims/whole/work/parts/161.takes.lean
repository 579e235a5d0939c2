/-! takes, worth, time: both -/
theorem w999 {n : Nat} (hn : n ≤ 999) (m : Mem) : X1_worth_73 (nI n) m = some (nI n, m) := by
  unfold X1_worth_73
  by_cases h : n = 999
  · simp (disch := omega) only [leT, leF, ltT, ltF, eqT, eqF, inT, n_cl, nI_add, pk_mul, n_div, pk_sub, md8, md2, or_true, true_or, or_false, false_or, Bool.true_eq_false, Bool.false_eq_true, L0, L1, L2, L3, L4, L5, L6, L7, L8, L9, L10, L20, L31, L40, L64, L99, L100, L255, L256, L999, L1000, L99999, ↓reduceIte]
    rw [h]
  · by_cases h0 : n = 0
    · simp (disch := omega) only [leT, leF, ltT, ltF, eqT, eqF, inT, n_cl, nI_add, pk_mul, n_div, pk_sub, md8, md2, or_true, true_or, or_false, false_or, Bool.true_eq_false, Bool.false_eq_true, L0, L1, L2, L3, L4, L5, L6, L7, L8, L9, L10, L20, L31, L40, L64, L99, L100, L255, L256, L999, L1000, L99999, ↓reduceIte, h0]
    · simp (disch := omega) only [leT, leF, ltT, ltF, eqT, eqF, inT, n_cl, nI_add, pk_mul, n_div, pk_sub, md8, md2, or_true, true_or, or_false, false_or, Bool.true_eq_false, Bool.false_eq_true, L0, L1, L2, L3, L4, L5, L6, L7, L8, L9, L10, L20, L31, L40, L64, L99, L100, L255, L256, L999, L1000, L99999, ↓reduceIte]
theorem t999 {n : Nat} (hn : n ≤ 999) (m : Mem) : X1_time_68 (nI n) m = some (nI n, m) := w999 hn m
theorem wi999 {n : Nat} (hn : n ≤ 999) (m : Mem) : X10_within (nI n) (nI 0) (nI 999) m = some (nI n, m) := by
  unfold X10_within
  simp (disch := omega) only [leT, leF, ltT, ltF, eqT, eqF, inT, n_cl, nI_add, pk_mul, n_div, pk_sub, md8, md2, or_true, true_or, or_false, false_or, Bool.true_eq_false, Bool.false_eq_true, L0, L1, L2, L3, L4, L5, L6, L7, L8, L9, L10, L20, L31, L40, L64, L99, L100, L255, L256, L999, L1000, L99999, ↓reduceIte]
def saN (cd : Nat → Cd) (r : Nat → Nat) (G : Nat → Nat → Nat) (p w t : Nat) : Nat := (saG cd r G p w t).toNatClampNeg
theorem saN_e {cd : Nat → Cd} {r : Nat → Nat} {G : Nat → Nat → Nat} {p w t : Nat} (hw : w ≠ 0) : saG cd r G p w t = nI (saN cd r G p w t) ∧ saN cd r G p w t ≤ 99 := by
  obtain ⟨v, h1, h2⟩ := saG_w (cd := cd) (r := r) (G := G) (p := p) (t := t) hw
  unfold saN
  rw [h2, n_cl (by omega)]
  exact ⟨rfl, h1⟩
def takA (cd : Nat → Cd) (r : Nat → Nat) (G : Nat → Nat → Nat) (p t : Nat) : Bool := tkK (G 1 p) (G 2 p) (G 3 p) (G 5 p) t (decide (¬ saG cd r G p 0 t = nI 0))
def worA (cd : Nat → Cd) (r : Nat → Nat) (G : Nat → Nat → Nat) (p t : Nat) : Nat := woK (G 1 p) (G 2 p) (saN cd r G p 1 t)
def timA (cd : Nat → Cd) (r : Nat → Nat) (G : Nat → Nat → Nat) (p t : Nat) : Nat := tiK (G 1 p) (G 2 p) (saN cd r G p 2 t)
section
variable {cd : Nat → Cd} {r : Nat → Nat} {nt ve f p t : Nat} {z : Nat → Nat} {m : Mem} {G : Nat → Nat → Nat}
theorem takes_c (hE : CE cd r nt z ve m) (hR : RF f m G) (hG : GO nt 1019 G) (hf : isFo f) (hp : p < 6) (ht : t < 8) : ∃ m', X2_takes nt z f (nI p) (nI t) m = some (nI (b01 (takA cd r G p t)), m') ∧ CE cd r nt z ve m' ∧ FrX m m' := by
  obtain ⟨m', a1, a2, a3⟩ := says_c hE hR hG hf hp (show 0 < 3 by decide) ht
  have R' := FrX_f hf a3 hR
  obtain ⟨g1, g2, g3, g4⟩ := hG
  obtain ⟨p1, p2, p3, p4, p5, p6⟩ := g4 p hp
  have a1' : X5_says nt z f (nI p) (0 : Int32) (nI t) m = some (saG cd r G p 0 t, m') := a1
  have key := fun y => tk_c (y := y) hp ht p1 p2 p3 (R'.2 1 p (by decide) (by decide) hp) (R'.2 2 p (by decide) (by decide) hp) (R'.2 3 p (by decide) (by decide) hp) (R'.2 5 p (by decide) (by decide) hp)
  have fin : ∀ y : Bool, y = decide (¬ saG cd r G p 0 t = nI 0) → X2_takes_22 nt z f (nI (b01 y)) (nI t) (nI p) m' = some (nI (b01 (takA cd r G p t)), m') := by
    intro y hy
    unfold X2_takes_22 takA
    rw [key y, ← hy]
    have hb : tkK (G 1 p) (G 2 p) (G 3 p) (G 5 p) t y = true ∨ tkK (G 1 p) (G 2 p) (G 3 p) (G 5 p) t y = false := by cases tkK (G 1 p) (G 2 p) (G 3 p) (G 5 p) t y <;> simp
    rcases hb with h | h <;> rw [h] <;> rfl
  unfold X2_takes
  rw [a1']
  refine ⟨m', ?_, a2, a3⟩
  by_cases q : saG cd r G p 0 t = nI 0
  · simp only [bi, L0, q, ↓reduceIte]
    exact fin false (by simp [q])
  · simp only [bi, L0, q, ↓reduceIte]
    exact fin true (by simp [q])
theorem worth_c (hE : CE cd r nt z ve m) (hR : RF f m G) (hG : GO nt 1019 G) (hf : isFo f) (hp : p < 6) (ht : t < 8) : ∃ m', X2_worth nt z f (nI p) (nI t) m = some (nI (worA cd r G p t), m') ∧ CE cd r nt z ve m' ∧ FrX m m' := by
  obtain ⟨m', a1, a2, a3⟩ := says_c hE hR hG hf hp (show 1 < 3 by decide) ht
  obtain ⟨g1, g2, g3, g4⟩ := hG
  obtain ⟨p1, p2, p3, p4, p5, p6⟩ := g4 p hp
  have s1 := hR.2 1 p (by decide) (by decide) hp
  have s2 := hR.2 2 p (by decide) (by decide) hp
  obtain ⟨n1, n2⟩ := saN_e (cd := cd) (r := r) (G := G) (p := p) (w := 1) (t := t) (by decide)
  rw [n1] at a1
  refine ⟨m', ?_, a2, a3⟩
  unfold X2_worth X1_worth worA woK
  rcases (show G 1 p = 0 ∨ G 1 p = 1 ∨ G 1 p = 2 ∨ G 1 p = 3 ∨ G 1 p = 4 ∨ G 1 p = 5 by omega) with h | h | h | h | h | h
  all_goals simp (disch := omega) only [leT, leF, ltT, ltF, eqT, eqF, inT, n_cl, nI_add, pk_mul, n_div, pk_sub, md8, md2, or_true, true_or, or_false, false_or, Bool.true_eq_false, Bool.false_eq_true, L0, L1, L2, L3, L4, L5, L6, L7, L8, L9, L10, L20, L31, L40, L64, L99, L100, L255, L256, L999, L1000, L99999, ↓reduceIte, s1, s2, a1, bi, h, w999, Bool.and_true, Bool.true_and, Bool.false_and, Bool.and_false, Bool.or_true, Bool.true_or, Bool.or_false, Bool.false_or, Bool.not_true, Bool.not_false, show ¬ (1 = 0) by decide, show ¬ (2 = 0) by decide, show ¬ (3 = 0) by decide, show ¬ (4 = 0) by decide, show ¬ (5 = 0) by decide, show ¬ (2 = 1) by decide, show ¬ (3 = 1) by decide, show ¬ (4 = 1) by decide, show ¬ (5 = 1) by decide, show ¬ (3 = 2) by decide, show ¬ (4 = 2) by decide, show ¬ (5 = 2) by decide, show ¬ (4 = 3) by decide, show ¬ (5 = 3) by decide, show ¬ (5 = 4) by decide]
theorem time_c (hE : CE cd r nt z ve m) (hR : RF f m G) (hG : GO nt 1019 G) (hf : isFo f) (hp : p < 6) (ht : t < 8) : ∃ m', X2_time nt z f (nI p) (nI t) m = some (nI (timA cd r G p t), m') ∧ CE cd r nt z ve m' ∧ FrX m m' := by
  obtain ⟨m', a1, a2, a3⟩ := says_c hE hR hG hf hp (show 2 < 3 by decide) ht
  obtain ⟨g1, g2, g3, g4⟩ := hG
  obtain ⟨p1, p2, p3, p4, p5, p6⟩ := g4 p hp
  have s1 := hR.2 1 p (by decide) (by decide) hp
  have s2 := hR.2 2 p (by decide) (by decide) hp
  obtain ⟨n1, n2⟩ := saN_e (cd := cd) (r := r) (G := G) (p := p) (w := 2) (t := t) (by decide)
  rw [n1] at a1
  refine ⟨m', ?_, a2, a3⟩
  unfold X2_time X1_time timA tiK
  rcases (show G 1 p = 0 ∨ G 1 p = 1 ∨ G 1 p = 2 ∨ G 1 p = 3 ∨ G 1 p = 4 ∨ G 1 p = 5 by omega) with h | h | h | h | h | h
  all_goals simp (disch := omega) only [leT, leF, ltT, ltF, eqT, eqF, inT, n_cl, nI_add, pk_mul, n_div, pk_sub, md8, md2, or_true, true_or, or_false, false_or, Bool.true_eq_false, Bool.false_eq_true, L0, L1, L2, L3, L4, L5, L6, L7, L8, L9, L10, L20, L31, L40, L64, L99, L100, L255, L256, L999, L1000, L99999, ↓reduceIte, s1, s2, a1, bi, h, t999, Bool.and_true, Bool.true_and, Bool.false_and, Bool.and_false, Bool.or_true, Bool.true_or, Bool.or_false, Bool.false_or, Bool.not_true, Bool.not_false, show ¬ (1 = 0) by decide, show ¬ (2 = 0) by decide, show ¬ (3 = 0) by decide, show ¬ (4 = 0) by decide, show ¬ (5 = 0) by decide, show ¬ (2 = 1) by decide, show ¬ (3 = 1) by decide, show ¬ (4 = 1) by decide, show ¬ (5 = 1) by decide, show ¬ (3 = 2) by decide, show ¬ (4 = 2) by decide, show ¬ (5 = 2) by decide, show ¬ (4 = 3) by decide, show ¬ (5 = 3) by decide, show ¬ (5 = 4) by decide]
/-! the reference -/
theorem takes_r {R : Nat} (hE : RE cd r nt m) (hR : RR m G) (hG : GO nt R G) (hp : p < G 0 0) (ht : t < 8) : ∃ m', X10_takes1 (nI p) (nI t) m = some (nI (b01 (takA cd r G p t)), m') ∧ FrA m m' := by
  have hp6 : p < 6 := by have := hG.1; omega
  obtain ⟨m', a1, a2⟩ := asks_r hE hR hG hp6 (show 0 < 3 by decide) ht
  have R' := FrA_rr a2 hR
  obtain ⟨g1, g2, g3, g4⟩ := hG
  obtain ⟨p1, p2, p3, p4, p5, p6⟩ := g4 p hp6
  have k1 := hR.2.2.2.2 p hp
  obtain ⟨s2, s3, s4, s5, s6⟩ := hR.2.2.2.1 p hp6
  obtain ⟨s2', s3', s4', s5', s6'⟩ := R'.2.2.2.1 p hp6
  have hb : b01 true = 1 := rfl
  have hb' : b01 false = 0 := rfl
  unfold X10_takes1 X10_takes1_33 X10_takes1_53 X10_takes1_63 X10_takes1_71 X10_takes1_86 X10_takes1_98 takA
  rcases (show G 1 p = 0 ∨ G 1 p = 1 ∨ G 1 p = 2 ∨ G 1 p = 3 ∨ G 1 p = 4 ∨ G 1 p = 5 by omega) with h | h | h | h | h | h
  · by_cases q : saG cd r G p 0 t = nI 0
    all_goals simp (disch := omega) only [leT, leF, ltT, ltF, eqT, eqF, inT, n_cl, nI_add, pk_mul, n_div, pk_sub, md8, md2, or_true, true_or, or_false, false_or, Bool.true_eq_false, Bool.false_eq_true, L0, L1, L2, L3, L4, L5, L6, L7, L8, L9, L10, L20, L31, L40, L64, L99, L100, L255, L256, L999, L1000, L99999, ↓reduceIte, k1, h, a1, bi, q, tkK, Bool.and_true, Bool.true_and, Bool.false_and, Bool.and_false, Bool.or_true, Bool.true_or, Bool.or_false, Bool.false_or, Bool.not_true, Bool.not_false, show ¬ (1 = 0) by decide, show ¬ (2 = 0) by decide, show ¬ (3 = 0) by decide, show ¬ (4 = 0) by decide, show ¬ (5 = 0) by decide, show ¬ (2 = 1) by decide, show ¬ (3 = 1) by decide, show ¬ (4 = 1) by decide, show ¬ (5 = 1) by decide, show ¬ (3 = 2) by decide, show ¬ (4 = 2) by decide, show ¬ (5 = 2) by decide, show ¬ (4 = 3) by decide, show ¬ (5 = 3) by decide, show ¬ (5 = 4) by decide, hb, hb', not_true, not_false_eq_true, decide_true, decide_false]
    all_goals exact ⟨m', rfl, a2⟩
  · by_cases q : saG cd r G p 0 t = nI 0
    all_goals rcases q1 : bp (nI (G 5 p)) t with _ | _
    all_goals simp (disch := omega) only [leT, leF, ltT, ltF, eqT, eqF, inT, n_cl, nI_add, pk_mul, n_div, pk_sub, md8, md2, or_true, true_or, or_false, false_or, Bool.true_eq_false, Bool.false_eq_true, L0, L1, L2, L3, L4, L5, L6, L7, L8, L9, L10, L20, L31, L40, L64, L99, L100, L255, L256, L999, L1000, L99999, ↓reduceIte, k1, h, a1, bi, q, tkK, Bool.and_true, Bool.true_and, Bool.false_and, Bool.and_false, Bool.or_true, Bool.true_or, Bool.or_false, Bool.false_or, Bool.not_true, Bool.not_false, show ¬ (1 = 0) by decide, show ¬ (2 = 0) by decide, show ¬ (3 = 0) by decide, show ¬ (4 = 0) by decide, show ¬ (5 = 0) by decide, show ¬ (2 = 1) by decide, show ¬ (3 = 1) by decide, show ¬ (4 = 1) by decide, show ¬ (5 = 1) by decide, show ¬ (3 = 2) by decide, show ¬ (4 = 2) by decide, show ¬ (5 = 2) by decide, show ¬ (4 = 3) by decide, show ¬ (5 = 3) by decide, show ¬ (5 = 4) by decide, hb, hb', not_true, not_false_eq_true, decide_true, decide_false, s5', bp_t, q1]
    all_goals exact ⟨m', rfl, a2⟩
  · by_cases q : saG cd r G p 0 t = nI 0
    all_goals rcases q2 : decide (t % 2 = 0) with _ | _
    all_goals have z2 := q2
    all_goals simp only [decide_eq_true_eq, decide_eq_false_iff_not] at z2
    all_goals simp (disch := omega) only [leT, leF, ltT, ltF, eqT, eqF, inT, n_cl, nI_add, pk_mul, n_div, pk_sub, md8, md2, or_true, true_or, or_false, false_or, Bool.true_eq_false, Bool.false_eq_true, L0, L1, L2, L3, L4, L5, L6, L7, L8, L9, L10, L20, L31, L40, L64, L99, L100, L255, L256, L999, L1000, L99999, ↓reduceIte, k1, h, a1, bi, q, tkK, Bool.and_true, Bool.true_and, Bool.false_and, Bool.and_false, Bool.or_true, Bool.true_or, Bool.or_false, Bool.false_or, Bool.not_true, Bool.not_false, show ¬ (1 = 0) by decide, show ¬ (2 = 0) by decide, show ¬ (3 = 0) by decide, show ¬ (4 = 0) by decide, show ¬ (5 = 0) by decide, show ¬ (2 = 1) by decide, show ¬ (3 = 1) by decide, show ¬ (4 = 1) by decide, show ¬ (5 = 1) by decide, show ¬ (3 = 2) by decide, show ¬ (4 = 2) by decide, show ¬ (5 = 2) by decide, show ¬ (4 = 3) by decide, show ¬ (5 = 3) by decide, show ¬ (5 = 4) by decide, hb, hb', not_true, not_false_eq_true, decide_true, decide_false, q2]
    all_goals first | exact ⟨m', rfl, a2⟩ | exact ⟨m, rfl, FrA_r m⟩
  · by_cases q : saG cd r G p 0 t = nI 0
    all_goals rcases q1 : bp (nI (G 5 p)) t with _ | _
    all_goals rcases q3 : decide (t = G 2 p % 8) with _ | _
    all_goals have z3 := q3
    all_goals simp only [decide_eq_true_eq, decide_eq_false_iff_not] at z3
    all_goals simp (disch := omega) only [leT, leF, ltT, ltF, eqT, eqF, inT, n_cl, nI_add, pk_mul, n_div, pk_sub, md8, md2, or_true, true_or, or_false, false_or, Bool.true_eq_false, Bool.false_eq_true, L0, L1, L2, L3, L4, L5, L6, L7, L8, L9, L10, L20, L31, L40, L64, L99, L100, L255, L256, L999, L1000, L99999, ↓reduceIte, k1, h, a1, bi, q, tkK, Bool.and_true, Bool.true_and, Bool.false_and, Bool.and_false, Bool.or_true, Bool.true_or, Bool.or_false, Bool.false_or, Bool.not_true, Bool.not_false, show ¬ (1 = 0) by decide, show ¬ (2 = 0) by decide, show ¬ (3 = 0) by decide, show ¬ (4 = 0) by decide, show ¬ (5 = 0) by decide, show ¬ (2 = 1) by decide, show ¬ (3 = 1) by decide, show ¬ (4 = 1) by decide, show ¬ (5 = 1) by decide, show ¬ (3 = 2) by decide, show ¬ (4 = 2) by decide, show ¬ (5 = 2) by decide, show ¬ (4 = 3) by decide, show ¬ (5 = 3) by decide, show ¬ (5 = 4) by decide, hb, hb', not_true, not_false_eq_true, decide_true, decide_false, s2, s5', bp_t, q1, q3]
    all_goals first | exact ⟨m', rfl, a2⟩ | exact ⟨m, rfl, FrA_r m⟩
  · by_cases q : saG cd r G p 0 t = nI 0
    all_goals rcases q2 : decide (t % 2 = 0) with _ | _
    all_goals rcases q4 : decide (t = G 3 p) with _ | _
    all_goals have z2 := q2
    all_goals have z4 := q4
    all_goals simp only [decide_eq_true_eq, decide_eq_false_iff_not] at z2 z4
    all_goals simp (disch := omega) only [leT, leF, ltT, ltF, eqT, eqF, inT, n_cl, nI_add, pk_mul, n_div, pk_sub, md8, md2, or_true, true_or, or_false, false_or, Bool.true_eq_false, Bool.false_eq_true, L0, L1, L2, L3, L4, L5, L6, L7, L8, L9, L10, L20, L31, L40, L64, L99, L100, L255, L256, L999, L1000, L99999, ↓reduceIte, k1, h, a1, bi, q, tkK, Bool.and_true, Bool.true_and, Bool.false_and, Bool.and_false, Bool.or_true, Bool.true_or, Bool.or_false, Bool.false_or, Bool.not_true, Bool.not_false, show ¬ (1 = 0) by decide, show ¬ (2 = 0) by decide, show ¬ (3 = 0) by decide, show ¬ (4 = 0) by decide, show ¬ (5 = 0) by decide, show ¬ (2 = 1) by decide, show ¬ (3 = 1) by decide, show ¬ (4 = 1) by decide, show ¬ (5 = 1) by decide, show ¬ (3 = 2) by decide, show ¬ (4 = 2) by decide, show ¬ (5 = 2) by decide, show ¬ (4 = 3) by decide, show ¬ (5 = 3) by decide, show ¬ (5 = 4) by decide, hb, hb', not_true, not_false_eq_true, decide_true, decide_false, s3, q2, q4]
    all_goals first | exact ⟨m', rfl, a2⟩ | exact ⟨m, rfl, FrA_r m⟩
  · simp (disch := omega) only [leT, leF, ltT, ltF, eqT, eqF, inT, n_cl, nI_add, pk_mul, n_div, pk_sub, md8, md2, or_true, true_or, or_false, false_or, Bool.true_eq_false, Bool.false_eq_true, L0, L1, L2, L3, L4, L5, L6, L7, L8, L9, L10, L20, L31, L40, L64, L99, L100, L255, L256, L999, L1000, L99999, ↓reduceIte, k1, h, tkK, Bool.and_true, Bool.true_and, Bool.false_and, Bool.and_false, Bool.or_true, Bool.true_or, Bool.or_false, Bool.false_or, Bool.not_true, Bool.not_false, show ¬ (1 = 0) by decide, show ¬ (2 = 0) by decide, show ¬ (3 = 0) by decide, show ¬ (4 = 0) by decide, show ¬ (5 = 0) by decide, show ¬ (2 = 1) by decide, show ¬ (3 = 1) by decide, show ¬ (4 = 1) by decide, show ¬ (5 = 1) by decide, show ¬ (3 = 2) by decide, show ¬ (4 = 2) by decide, show ¬ (5 = 2) by decide, show ¬ (4 = 3) by decide, show ¬ (5 = 3) by decide, show ¬ (5 = 4) by decide, hb']
    exact ⟨m, rfl, FrA_r m⟩
theorem worth_r {R : Nat} (hE : RE cd r nt m) (hR : RR m G) (hG : GO nt R G) (hp : p < G 0 0) (ht : t < 8) : ∃ m', X10_worthOf (nI p) (nI t) m = some (nI (worA cd r G p t), m') ∧ FrA m m' := by
  have hp6 : p < 6 := by have := hG.1; omega
  obtain ⟨m', a1, a2⟩ := asks_r hE hR hG hp6 (show 1 < 3 by decide) ht
  have R' := FrA_rr a2 hR
  obtain ⟨g1, g2, g3, g4⟩ := hG
  obtain ⟨p1, p2, p3, p4, p5, p6⟩ := g4 p hp6
  have k1 := hR.2.2.2.2 p hp
  obtain ⟨s2', s3', s4', s5', s6'⟩ := R'.2.2.2.1 p hp6
  obtain ⟨n1, n2⟩ := saN_e (cd := cd) (r := r) (G := G) (p := p) (w := 1) (t := t) (by decide)
  rw [n1] at a1
  unfold X10_worthOf X10_worthOf_89 worA woK
  rcases (show G 1 p = 0 ∨ G 1 p = 1 ∨ G 1 p = 2 ∨ G 1 p = 3 ∨ G 1 p = 4 ∨ G 1 p = 5 by omega) with h | h | h | h | h | h
  all_goals simp (disch := omega) only [leT, leF, ltT, ltF, eqT, eqF, inT, n_cl, nI_add, pk_mul, n_div, pk_sub, md8, md2, or_true, true_or, or_false, false_or, Bool.true_eq_false, Bool.false_eq_true, L0, L1, L2, L3, L4, L5, L6, L7, L8, L9, L10, L20, L31, L40, L64, L99, L100, L255, L256, L999, L1000, L99999, ↓reduceIte, k1, s2', a1, bi, h, wi999, Bool.and_true, Bool.true_and, Bool.false_and, Bool.and_false, Bool.or_true, Bool.true_or, Bool.or_false, Bool.false_or, Bool.not_true, Bool.not_false, show ¬ (1 = 0) by decide, show ¬ (2 = 0) by decide, show ¬ (3 = 0) by decide, show ¬ (4 = 0) by decide, show ¬ (5 = 0) by decide, show ¬ (2 = 1) by decide, show ¬ (3 = 1) by decide, show ¬ (4 = 1) by decide, show ¬ (5 = 1) by decide, show ¬ (3 = 2) by decide, show ¬ (4 = 2) by decide, show ¬ (5 = 2) by decide, show ¬ (4 = 3) by decide, show ¬ (5 = 3) by decide, show ¬ (5 = 4) by decide]
  all_goals first | exact ⟨m', rfl, a2⟩ | exact ⟨m, rfl, FrA_r m⟩
theorem time_r {R : Nat} (hE : RE cd r nt m) (hR : RR m G) (hG : GO nt R G) (hp : p < G 0 0) (ht : t < 8) : ∃ m', X10_timeOf (nI p) (nI t) m = some (nI (timA cd r G p t), m') ∧ FrA m m' := by
  have hp6 : p < 6 := by have := hG.1; omega
  obtain ⟨m', a1, a2⟩ := asks_r hE hR hG hp6 (show 2 < 3 by decide) ht
  have R' := FrA_rr a2 hR
  obtain ⟨g1, g2, g3, g4⟩ := hG
  obtain ⟨p1, p2, p3, p4, p5, p6⟩ := g4 p hp6
  have k1 := hR.2.2.2.2 p hp
  obtain ⟨s2', s3', s4', s5', s6'⟩ := R'.2.2.2.1 p hp6
  obtain ⟨n1, n2⟩ := saN_e (cd := cd) (r := r) (G := G) (p := p) (w := 2) (t := t) (by decide)
  rw [n1] at a1
  unfold X10_timeOf X10_timeOf_71 timA tiK
  rcases (show G 1 p = 0 ∨ G 1 p = 1 ∨ G 1 p = 2 ∨ G 1 p = 3 ∨ G 1 p = 4 ∨ G 1 p = 5 by omega) with h | h | h | h | h | h
  all_goals simp (disch := omega) only [leT, leF, ltT, ltF, eqT, eqF, inT, n_cl, nI_add, pk_mul, n_div, pk_sub, md8, md2, or_true, true_or, or_false, false_or, Bool.true_eq_false, Bool.false_eq_true, L0, L1, L2, L3, L4, L5, L6, L7, L8, L9, L10, L20, L31, L40, L64, L99, L100, L255, L256, L999, L1000, L99999, ↓reduceIte, k1, s2', a1, bi, h, wi999, Bool.and_true, Bool.true_and, Bool.false_and, Bool.and_false, Bool.or_true, Bool.true_or, Bool.or_false, Bool.false_or, Bool.not_true, Bool.not_false, show ¬ (1 = 0) by decide, show ¬ (2 = 0) by decide, show ¬ (3 = 0) by decide, show ¬ (4 = 0) by decide, show ¬ (5 = 0) by decide, show ¬ (2 = 1) by decide, show ¬ (3 = 1) by decide, show ¬ (4 = 1) by decide, show ¬ (5 = 1) by decide, show ¬ (3 = 2) by decide, show ¬ (4 = 2) by decide, show ¬ (5 = 2) by decide, show ¬ (4 = 3) by decide, show ¬ (5 = 3) by decide, show ¬ (5 = 4) by decide]
  all_goals first | exact ⟨m', rfl, a2⟩ | exact ⟨m, rfl, FrA_r m⟩
end
