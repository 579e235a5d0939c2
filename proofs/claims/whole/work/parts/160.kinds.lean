/-! KINDS -/
theorem md2 (a : Nat) : a - a / 2 * 2 = a % 2 := by omega
def tkK (k nu pl wt t : Nat) (y : Bool) : Bool :=
  if k = 0 then y else if k = 1 then bp (nI wt) t && y else if k = 2 then decide (t % 2 = 0) || y
  else if k = 3 then (bp (nI wt) t && y) || decide (t = nu % 8) else if k = 4 then (decide (t % 2 = 0) || y) && !decide (t = pl) else false
def woK (k nu v : Nat) : Nat := if k = 0 then v else if k = 1 then 2 * v else if k = 2 then v + nu else if k = 3 then 2 * v + 5 else if k = 4 then (v + nu) / 2 else 0
def tiK (k nu v : Nat) : Nat := if k = 0 then v else if k = 1 then v else if k = 2 then v / 2 else if k = 3 then v + nu else if k = 4 then v / 2 + 1 else 20
def b01 (b : Bool) : Nat := if b then 1 else 0
theorem woK_le {k nu v : Nat} (hn : nu ≤ 9) (hv : v ≤ 99) : woK k nu v ≤ 999 := by
  unfold woK
  repeat' split
  all_goals omega
theorem tiK_le {k nu v : Nat} (hn : nu ≤ 9) (hv : v ≤ 99) : tiK k nu v ≤ 999 := by
  unfold tiK
  repeat' split
  all_goals omega
theorem tk_c {f p t k nu pl wt : Nat} {m : Mem} {y : Bool} (hp : p < 6) (ht : t < 8) (hk : k ≤ 5) (hn : nu ≤ 9) (hpl : pl ≤ 7) (h1 : m.1 (f + 1) p = nI k) (h2 : m.1 (f + 2) p = nI nu) (h3 : m.1 (f + 3) p = nI pl) (h5 : m.1 (f + 5) p = nI wt) : X1_takes f (nI p) (nI t) (nI (b01 y)) m = some (nI (b01 (tkK k nu pl wt t y)), m) := by
  unfold X1_takes X1_takes_18 X1_takes_31 X1_takes_113 X1_takes_141
  have hb : b01 true = 1 := rfl
  have hb' : b01 false = 0 := rfl
  rcases (show k = 0 ∨ k = 1 ∨ k = 2 ∨ k = 3 ∨ k = 4 ∨ k = 5 by omega) with rfl | rfl | rfl | rfl | rfl | rfl
  · rcases y with _ | _
    all_goals simp (disch := omega) only [leT, leF, ltT, ltF, eqT, eqF, inT, n_cl, nI_add, pk_mul, n_div, pk_sub, md8, md2, or_true, true_or, or_false, false_or, Bool.true_eq_false, Bool.false_eq_true, L0, L1, L2, L3, L4, L5, L6, L7, L8, L9, L10, L20, L31, L40, L64, L99, L100, L255, L256, L999, L1000, L99999, ↓reduceIte, ite_self, h1, h2, h3, h5, bp_f, hb, hb', tkK, Bool.and_true, Bool.true_and, Bool.false_and, Bool.and_false, Bool.or_true, Bool.true_or, Bool.or_false, Bool.false_or, Bool.not_true, Bool.not_false, show ¬ (1 = 0) by decide, show ¬ (2 = 0) by decide, show ¬ (3 = 0) by decide, show ¬ (4 = 0) by decide, show ¬ (5 = 0) by decide, show ¬ (2 = 1) by decide, show ¬ (3 = 1) by decide, show ¬ (4 = 1) by decide, show ¬ (5 = 1) by decide, show ¬ (3 = 2) by decide, show ¬ (4 = 2) by decide, show ¬ (5 = 2) by decide, show ¬ (4 = 3) by decide, show ¬ (5 = 3) by decide, show ¬ (5 = 4) by decide]
  · rcases y with _ | _
    all_goals rcases q1 : bp (nI wt) t with _ | _
    all_goals simp (disch := omega) only [leT, leF, ltT, ltF, eqT, eqF, inT, n_cl, nI_add, pk_mul, n_div, pk_sub, md8, md2, or_true, true_or, or_false, false_or, Bool.true_eq_false, Bool.false_eq_true, L0, L1, L2, L3, L4, L5, L6, L7, L8, L9, L10, L20, L31, L40, L64, L99, L100, L255, L256, L999, L1000, L99999, ↓reduceIte, ite_self, h1, h2, h3, h5, bp_f, hb, hb', tkK, Bool.and_true, Bool.true_and, Bool.false_and, Bool.and_false, Bool.or_true, Bool.true_or, Bool.or_false, Bool.false_or, Bool.not_true, Bool.not_false, show ¬ (1 = 0) by decide, show ¬ (2 = 0) by decide, show ¬ (3 = 0) by decide, show ¬ (4 = 0) by decide, show ¬ (5 = 0) by decide, show ¬ (2 = 1) by decide, show ¬ (3 = 1) by decide, show ¬ (4 = 1) by decide, show ¬ (5 = 1) by decide, show ¬ (3 = 2) by decide, show ¬ (4 = 2) by decide, show ¬ (5 = 2) by decide, show ¬ (4 = 3) by decide, show ¬ (5 = 3) by decide, show ¬ (5 = 4) by decide, q1]
  · rcases y with _ | _
    all_goals rcases q2 : decide (t % 2 = 0) with _ | _
    all_goals have z2 := q2
    all_goals simp only [decide_eq_true_eq, decide_eq_false_iff_not] at z2
    all_goals simp (disch := omega) only [leT, leF, ltT, ltF, eqT, eqF, inT, n_cl, nI_add, pk_mul, n_div, pk_sub, md8, md2, or_true, true_or, or_false, false_or, Bool.true_eq_false, Bool.false_eq_true, L0, L1, L2, L3, L4, L5, L6, L7, L8, L9, L10, L20, L31, L40, L64, L99, L100, L255, L256, L999, L1000, L99999, ↓reduceIte, ite_self, h1, h2, h3, h5, bp_f, hb, hb', tkK, Bool.and_true, Bool.true_and, Bool.false_and, Bool.and_false, Bool.or_true, Bool.true_or, Bool.or_false, Bool.false_or, Bool.not_true, Bool.not_false, show ¬ (1 = 0) by decide, show ¬ (2 = 0) by decide, show ¬ (3 = 0) by decide, show ¬ (4 = 0) by decide, show ¬ (5 = 0) by decide, show ¬ (2 = 1) by decide, show ¬ (3 = 1) by decide, show ¬ (4 = 1) by decide, show ¬ (5 = 1) by decide, show ¬ (3 = 2) by decide, show ¬ (4 = 2) by decide, show ¬ (5 = 2) by decide, show ¬ (4 = 3) by decide, show ¬ (5 = 3) by decide, show ¬ (5 = 4) by decide, q2]
  · rcases y with _ | _
    all_goals rcases q1 : bp (nI wt) t with _ | _
    all_goals rcases q3 : decide (t = nu % 8) with _ | _
    all_goals have z3 := q3
    all_goals simp only [decide_eq_true_eq, decide_eq_false_iff_not] at z3
    all_goals simp (disch := omega) only [leT, leF, ltT, ltF, eqT, eqF, inT, n_cl, nI_add, pk_mul, n_div, pk_sub, md8, md2, or_true, true_or, or_false, false_or, Bool.true_eq_false, Bool.false_eq_true, L0, L1, L2, L3, L4, L5, L6, L7, L8, L9, L10, L20, L31, L40, L64, L99, L100, L255, L256, L999, L1000, L99999, ↓reduceIte, ite_self, h1, h2, h3, h5, bp_f, hb, hb', tkK, Bool.and_true, Bool.true_and, Bool.false_and, Bool.and_false, Bool.or_true, Bool.true_or, Bool.or_false, Bool.false_or, Bool.not_true, Bool.not_false, show ¬ (1 = 0) by decide, show ¬ (2 = 0) by decide, show ¬ (3 = 0) by decide, show ¬ (4 = 0) by decide, show ¬ (5 = 0) by decide, show ¬ (2 = 1) by decide, show ¬ (3 = 1) by decide, show ¬ (4 = 1) by decide, show ¬ (5 = 1) by decide, show ¬ (3 = 2) by decide, show ¬ (4 = 2) by decide, show ¬ (5 = 2) by decide, show ¬ (4 = 3) by decide, show ¬ (5 = 3) by decide, show ¬ (5 = 4) by decide, q1, q3]
  · rcases y with _ | _
    all_goals rcases q2 : decide (t % 2 = 0) with _ | _
    all_goals rcases q4 : decide (t = pl) with _ | _
    all_goals have z2 := q2
    all_goals have z4 := q4
    all_goals simp only [decide_eq_true_eq, decide_eq_false_iff_not] at z2 z4
    all_goals simp (disch := omega) only [leT, leF, ltT, ltF, eqT, eqF, inT, n_cl, nI_add, pk_mul, n_div, pk_sub, md8, md2, or_true, true_or, or_false, false_or, Bool.true_eq_false, Bool.false_eq_true, L0, L1, L2, L3, L4, L5, L6, L7, L8, L9, L10, L20, L31, L40, L64, L99, L100, L255, L256, L999, L1000, L99999, ↓reduceIte, ite_self, h1, h2, h3, h5, bp_f, hb, hb', tkK, Bool.and_true, Bool.true_and, Bool.false_and, Bool.and_false, Bool.or_true, Bool.true_or, Bool.or_false, Bool.false_or, Bool.not_true, Bool.not_false, show ¬ (1 = 0) by decide, show ¬ (2 = 0) by decide, show ¬ (3 = 0) by decide, show ¬ (4 = 0) by decide, show ¬ (5 = 0) by decide, show ¬ (2 = 1) by decide, show ¬ (3 = 1) by decide, show ¬ (4 = 1) by decide, show ¬ (5 = 1) by decide, show ¬ (3 = 2) by decide, show ¬ (4 = 2) by decide, show ¬ (5 = 2) by decide, show ¬ (4 = 3) by decide, show ¬ (5 = 3) by decide, show ¬ (5 = 4) by decide, q2, q4]
  · simp (disch := omega) only [leT, leF, ltT, ltF, eqT, eqF, inT, n_cl, nI_add, pk_mul, n_div, pk_sub, md8, md2, or_true, true_or, or_false, false_or, Bool.true_eq_false, Bool.false_eq_true, L0, L1, L2, L3, L4, L5, L6, L7, L8, L9, L10, L20, L31, L40, L64, L99, L100, L255, L256, L999, L1000, L99999, ↓reduceIte, ite_self, h1, h2, h3, h5, bp_f, hb, hb', tkK, Bool.and_true, Bool.true_and, Bool.false_and, Bool.and_false, Bool.or_true, Bool.true_or, Bool.or_false, Bool.false_or, Bool.not_true, Bool.not_false, show ¬ (1 = 0) by decide, show ¬ (2 = 0) by decide, show ¬ (3 = 0) by decide, show ¬ (4 = 0) by decide, show ¬ (5 = 0) by decide, show ¬ (2 = 1) by decide, show ¬ (3 = 1) by decide, show ¬ (4 = 1) by decide, show ¬ (5 = 1) by decide, show ¬ (3 = 2) by decide, show ¬ (4 = 2) by decide, show ¬ (5 = 2) by decide, show ¬ (4 = 3) by decide, show ¬ (5 = 3) by decide, show ¬ (5 = 4) by decide]
