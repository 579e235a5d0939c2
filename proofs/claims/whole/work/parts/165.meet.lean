/-! one asks the other -/
def ftQ (P : Nat → Bool) : Nat → Nat
  | 0 => 9
  | k + 1 => if P (7 - k) = true then 7 - k else ftQ P k
def asP (G : Nat → Nat → Nat) (a b t : Nat) : Bool := bp (nI (G 5 a)) t && (kn G b t && !kn G a t)
def cP (cd : Nat → Cd) (r : Nat → Nat) (G : Nat → Nat → Nat) (a b : Nat) : Nat := if frA G b = true then 8 else payB cd r G a b
def mtL (cd : Nat → Cd) (r : Nat → Nat) (G : Nat → Nat → Nat) (a b q : Nat) : Nat × (Nat → Nat → Nat) := if q = 9 ∨ cP cd r G a b = 9 then (0, G) else (1, dealA cd r G a b q (cP cd r G a b))
def meetA (cd : Nat → Cd) (r : Nat → Nat) (G : Nat → Nat → Nat) (a b : Nat) : Nat × (Nat → Nat → Nat) := mtL cd r G a b (ftQ (asP G a b) 8)
theorem ftQ_0 {P : Nat → Bool} (h : ∀ t, t < 8 → P t = false) : ∀ k, k ≤ 8 → ftQ P k = 9 := by
  intro k
  induction k with
  | zero => intro _; rfl
  | succ k ih => intro hk; rw [ftQ, if_neg (by rw [h _ (by omega)]; decide)]; exact ih (by omega)
theorem ftQ_is (P : Nat → Bool) : ∀ k, k ≤ 8 → ftQ P k = 9 ∨ (ftQ P k < 8 ∧ P (ftQ P k) = true) := by
  intro k
  induction k with
  | zero => intro _; exact .inl rfl
  | succ k ih =>
    intro hk
    rw [ftQ]
    split
    · rename_i h; exact .inr ⟨by omega, h⟩
    · exact ih (by omega)
theorem ftQ_st (P : Nat → Bool) {t : Nat} (ht : t < 8) : ftQ P (8 - t) = if P t = true then t else ftQ P (8 - (t + 1)) := by
  rw [show 8 - t = (8 - (t + 1)) + 1 by omega, ftQ, show 7 - (8 - (t + 1)) = t by omega]
section
variable {cd : Nat → Cd} {r : Nat → Nat} {nt ve f a b t pay R : Nat} {z : Nat → Nat} {m : Mem} {G : Nat → Nat → Nat}
theorem cP_le (h : G 2 a ≤ 9) : cP cd r G a b ≤ 8 ∨ cP cd r G a b = 9 := by
  unfold cP payB
  have := (payL_le (cd := cd) (r := r) (b := b) h 8 (by decide)).2
  split <;> omega
theorem payA_c : payA cd r G a b t = if (kn G b t && !kn G a t) = true then cP cd r G a b else 9 := by
  unfold payA cP
  cases kn G b t <;> cases kn G a t <;> simp
theorem fa_c (v : Int32) (P : Nat → Bool) (hP : ∀ t, t < 8 → bp v t = P t) : ∀ n t m, t ≤ 8 → 8 - t < n → X2_firstAsked_34 f n v (nI t) m = some (nbI (ftQ P (8 - t)), m) := by
  intro n
  induction n with
  | zero => intro t m _ h; omega
  | succ n ih =>
    intro t m ht hn
    rw [X2_firstAsked_34]
    by_cases h8 : t = 8
    · subst h8
      simp (disch := omega) only [leT, leF, ltT, ltF, eqT, eqF, inT, n_cl, nI_add, pk_mul, n_div, pk_sub, md8, md2, or_true, true_or, or_false, false_or, Bool.true_eq_false, Bool.false_eq_true, L0, L1, L2, L3, L4, L5, L6, L7, L8, L9, L10, L20, L31, L40, L64, L99, L100, L255, L256, L999, L1000, L99999, ↓reduceIte]
      rfl
    · have ht8 : t < 8 := by omega
      have hp := hP t ht8
      have hi := ih (t + 1) m (by omega) (by omega)
      rw [ftQ_st P ht8]
      rcases q : P t with _ | _
      · rw [q] at hp
        simp (disch := omega) only [leT, leF, ltT, ltF, eqT, eqF, inT, n_cl, nI_add, pk_mul, n_div, pk_sub, md8, md2, or_true, true_or, or_false, false_or, Bool.true_eq_false, Bool.false_eq_true, L0, L1, L2, L3, L4, L5, L6, L7, L8, L9, L10, L20, L31, L40, L64, L99, L100, L255, L256, L999, L1000, L99999, ↓reduceIte, bp_f, hp]
        exact hi
      · rw [q] at hp
        simp (disch := omega) only [leT, leF, ltT, ltF, eqT, eqF, inT, n_cl, nI_add, pk_mul, n_div, pk_sub, md8, md2, or_true, true_or, or_false, false_or, Bool.true_eq_false, Bool.false_eq_true, L0, L1, L2, L3, L4, L5, L6, L7, L8, L9, L10, L20, L31, L40, L64, L99, L100, L255, L256, L999, L1000, L99999, ↓reduceIte, bp_f, hp]
        unfold nbI
        rw [if_neg (by omega)]
theorem first_c (hR : RF f m G) (ha : a < 6) (hb : b < 6) : X2_firstAsked f (nI a) (nI b) m = some (nbI (ftQ (asP G a b) 8), m) := by
  have s4a := hR.2 4 a (by decide) (by decide) ha
  have s4b := hR.2 4 b (by decide) (by decide) hb
  have s5 := hR.2 5 a (by decide) (by decide) ha
  have hP : ∀ t, t < 8 → bp (nI (G 5 a) &&& nI (G 4 b) &&& (nI (G 4 a) ^^^ -nI 1)) t = asP G a b t := by
    intro t ht
    rw [bp_and _ _ (by omega), bp_and _ _ (by omega), show (-nI 1 : Int32) = -1 from rfl, bp_neg _ (by omega)]
    unfold asP kn
    rw [Bool.and_assoc]
  unfold X2_firstAsked
  by_cases q : nI (G 5 a) &&& nI (G 4 b) &&& (nI (G 4 a) ^^^ -nI 1) = nI 0
  · rw [ftQ_0 (fun t ht => by rw [← hP t ht, q, bp_0]) 8 (by decide)]
    simp (disch := omega) only [leT, leF, ltT, ltF, eqT, eqF, inT, n_cl, nI_add, pk_mul, n_div, pk_sub, md8, md2, or_true, true_or, or_false, false_or, Bool.true_eq_false, Bool.false_eq_true, L0, L1, L2, L3, L4, L5, L6, L7, L8, L9, L10, L20, L31, L40, L64, L99, L100, L255, L256, L999, L1000, L99999, ↓reduceIte, s4a, s4b, s5, q]
    rfl
  · simp (disch := omega) only [leT, leF, ltT, ltF, eqT, eqF, inT, n_cl, nI_add, pk_mul, n_div, pk_sub, md8, md2, or_true, true_or, or_false, false_or, Bool.true_eq_false, Bool.false_eq_true, L0, L1, L2, L3, L4, L5, L6, L7, L8, L9, L10, L20, L31, L40, L64, L99, L100, L255, L256, L999, L1000, L99999, ↓reduceIte, s4a, s4b, s5, q]
    exact fa_c _ _ hP 10000 0 m (by decide) (by decide)
theorem meet_r (hG : GO nt R G) (ha : a < G 0 0) (hb : b < G 0 0) (hab : a ≠ b) : ∀ n t m, t ≤ 8 → 8 - t < n → RE cd r nt m → RR m G → ∃ m', X10_meets1_2 n (nI a) (nI b) (nI t) m = some (nI (mtL cd r G a b (ftQ (asP G a b) (8 - t))).1, m') ∧ RR m' (mtL cd r G a b (ftQ (asP G a b) (8 - t))).2 ∧ FrT m m' := by
  intro n
  induction n with
  | zero => intro t m _ h; omega
  | succ n ih =>
    intro t m ht hn hE hR
    have g0 := hG.1
    rw [X10_meets1_2]
    by_cases h8 : t = 8
    · subst h8
      simp (disch := omega) only [leT, leF, ltT, ltF, eqT, eqF, inT, n_cl, nI_add, pk_mul, n_div, pk_sub, md8, md2, or_true, true_or, or_false, false_or, Bool.true_eq_false, Bool.false_eq_true, L0, L1, L2, L3, L4, L5, L6, L7, L8, L9, L10, L20, L31, L40, L64, L99, L100, L255, L256, L999, L1000, L99999, ↓reduceIte]
      exact ⟨m, rfl, hR, FrT_r m⟩
    · have ht8 : t < 8 := by omega
      have s5 := (hR.2.2.2.1 a (by omega)).2.2.2.1
      have cl := cP_le (cd := cd) (r := r) (b := b) (hG.2.2.2 a (by omega)).2.1
      by_cases q1 : bp (nI (G 5 a)) t = true
      · obtain ⟨m1, a1, a3⟩ := pay_r (t := t) hE hR hG ha hb
        have R1 := FrA_rr a3 hR
        have E1 := FrA_re a3 hE
        have hpa := payA_c (cd := cd) (r := r) (G := G) (a := a) (b := b) (t := t)
        have hle : payA cd r G a b t ≤ 9 := by rw [hpa]; split <;> omega
        have hE0 := nbI_e hle
        by_cases q2 : payA cd r G a b t = 9
        · obtain ⟨m2, b1, b2, b3⟩ := ih (t + 1) m1 (by omega) (by omega) E1 R1
          have e : mtL cd r G a b (ftQ (asP G a b) (8 - t)) = mtL cd r G a b (ftQ (asP G a b) (8 - (t + 1))) := by
            rw [ftQ_st _ ht8]
            by_cases q3 : asP G a b t = true
            · have hk : (kn G b t && !kn G a t) = true := by
                unfold asP at q3
                simp only [Bool.and_eq_true] at q3 ⊢
                exact q3.2
              rw [hpa, if_pos hk] at q2
              unfold mtL
              rw [if_pos (.inr q2), if_pos (.inr q2)]
            · rw [if_neg q3]
          simp (disch := omega) only [leT, leF, ltT, ltF, eqT, eqF, inT, n_cl, nI_add, pk_mul, n_div, pk_sub, md8, md2, or_true, true_or, or_false, false_or, Bool.true_eq_false, Bool.false_eq_true, L0, L1, L2, L3, L4, L5, L6, L7, L8, L9, L10, L20, L31, L40, L64, L99, L100, L255, L256, L999, L1000, L99999, ↓reduceIte, X10_meets1_52, s5, bp_t, q1, a1, bi, hE0, q2]
          rw [e]
          exact ⟨m2, b1, b2, FrT_t (FrT_a a3) b3⟩
        · have hk : (kn G b t && !kn G a t) = true := by
            apply Classical.byContradiction
            intro h
            rw [if_neg h] at hpa
            exact q2 hpa
          rw [if_pos hk] at hpa
          have q3 : asP G a b t = true := by unfold asP; rw [q1, hk]; rfl
          obtain ⟨m2, b1, b2, b3⟩ := deal_r (t := t) (pay := payA cd r G a b t) E1 R1 hG ha hb hab ht8 (by omega)
          have hnb : nbI (payA cd r G a b t) = nI (payA cd r G a b t) := by unfold nbI; rw [if_neg q2]
          have e : mtL cd r G a b (ftQ (asP G a b) (8 - t)) = (1, dealA cd r G a b t (payA cd r G a b t)) := by
            rw [ftQ_st _ ht8, if_pos q3]
            unfold mtL
            rw [← hpa, if_neg (by omega)]
          rw [hnb] at a1
          rw [hnb] at hE0
          simp (disch := omega) only [leT, leF, ltT, ltF, eqT, eqF, inT, n_cl, nI_add, pk_mul, n_div, pk_sub, md8, md2, or_true, true_or, or_false, false_or, Bool.true_eq_false, Bool.false_eq_true, L0, L1, L2, L3, L4, L5, L6, L7, L8, L9, L10, L20, L31, L40, L64, L99, L100, L255, L256, L999, L1000, L99999, ↓reduceIte, s5, bp_t, q1, a1, bi, hE0, q2, b1, bv]
          rw [e]
          exact ⟨m2, rfl, b2, FrT_t (FrT_a a3) b3⟩
      · have q3 : asP G a b t = false := by unfold asP; simp [q1]
        obtain ⟨m2, b1, b2, b3⟩ := ih (t + 1) m (by omega) (by omega) hE hR
        have e : ftQ (asP G a b) (8 - t) = ftQ (asP G a b) (8 - (t + 1)) := by rw [ftQ_st _ ht8, q3]; rfl
        rw [e]
        simp (disch := omega) only [leT, leF, ltT, ltF, eqT, eqF, inT, n_cl, nI_add, pk_mul, n_div, pk_sub, md8, md2, or_true, true_or, or_false, false_or, Bool.true_eq_false, Bool.false_eq_true, L0, L1, L2, L3, L4, L5, L6, L7, L8, L9, L10, L20, L31, L40, L64, L99, L100, L255, L256, L999, L1000, L99999, ↓reduceIte, X10_meets1_52, s5, bp_t, q1]
        exact ⟨m2, b1, b2, b3⟩
theorem mtL_s (q : Nat) : Sm G (mtL cd r G a b q).2 := by
  unfold mtL
  split
  · intro _ _ _ _; rfl
  · exact deal_s
theorem mtL_1 (q : Nat) : (mtL cd r G a b q).1 ≤ 1 ∧ ((mtL cd r G a b q).1 = 0 → (mtL cd r G a b q).2 = G) := by
  unfold mtL
  split
  · exact ⟨Nat.zero_le _, fun _ => rfl⟩
  · exact ⟨Nat.le_refl _, fun h => absurd (show 1 = 0 from h) (by decide)⟩
theorem mtL_o {q : Nat} (hG : GO nt R G) (ha : a < 6) (hb : b < 6) (hq : q < 8 ∨ q = 9) : GO nt R (mtL cd r G a b q).2 := by
  unfold mtL
  split
  · exact hG
  · rename_i h
    have := cP_le (cd := cd) (r := r) (b := b) (hG.2.2.2 a ha).2.1
    exact deal_o hG ha hb (by omega) (by omega)
theorem meet_o (hG : GO nt R G) (ha : a < 6) (hb : b < 6) : GO nt R (meetA cd r G a b).2 := by
  refine mtL_o hG ha hb ?_
  have := ftQ_is (asP G a b) 8 (by decide)
  omega
theorem meets_r (hE : RE cd r nt m) (hR : RR m G) (hG : GO nt R G) (ha : a < G 0 0) (hb : b < G 0 0) (hab : a ≠ b) : ∃ m', X10_meets1 (nI a) (nI b) m = some (nI (meetA cd r G a b).1, m') ∧ RR m' (meetA cd r G a b).2 ∧ FrT m m' := meet_r hG ha hb hab 10000 0 m (by decide) (by decide) hE hR
end
