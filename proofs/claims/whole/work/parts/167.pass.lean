/-! rounds: the class and the reference -/
section
variable {cd : Nat → Cd} {r : Nat → Nat} {nt ve f a b t bu R N : Nat} {z : Nat → Nat} {m : Mem} {G : Fo} {s : Nat × Fo}
theorem rests_c (hE : CE cd r nt z ve m) (hR : RF f m G) (hG : GO nt R G) : X2_restsForGood nt z f m = some (nI (1 - fO (cd (G 0 2))), m) := by
  obtain ⟨e1, e2, e3, e4, e5, e6, e7, e8⟩ := hE
  obtain ⟨g1, g2, g3, g4⟩ := hG
  have t3 := (e2 (G 0 2) g3).2.2.1
  have r2 := hR.1 2 (by decide)
  have k2 := fO_le (cd (G 0 2))
  unfold X2_restsForGood X5_namesRound
  rcases (show fO (cd (G 0 2)) = 0 ∨ fO (cd (G 0 2)) = 1 by omega) with h | h
  all_goals rw [h] at t3
  all_goals simp (disch := omega) only [leT, leF, ltT, ltF, eqT, eqF, inT, n_cl, nI_add, pk_mul, n_div, pk_sub, md8, md2, or_true, true_or, or_false, false_or, Bool.true_eq_false, Bool.false_eq_true, L0, L1, L2, L3, L4, L5, L6, L7, L8, L9, L10, L20, L31, L40, L64, L99, L100, L255, L256, L999, L1000, L99999, ↓reduceIte, r2, g3, wi, t3, bi, h]
theorem rnd_f (hf : isFo f) (h : RF f m G) : RF f (pI m f 1 (nI (G 0 1 + 1))) (rnd G) := by
  have hff : f = 5 ∨ f = 16 ∨ f = 23 := hf
  constructor
  · intro p hp
    unfold rnd
    by_cases q : p = 1
    · subst q; rw [rIs, if_pos ⟨rfl, rfl⟩]
    · rw [rIn (by omega), if_neg (by omega)]; exact h.1 p hp
  · intro j p h1 h2 hp
    unfold rnd
    rw [rIn (by omega), if_neg (by omega)]; exact h.2 j p h1 h2 hp
theorem pass_c (k6 : Int32 → Int32 → Int32 → Int32 → Mem → Option (Int32 × Mem)) {v2 : Int32} {v5 c0 : Nat} (hc0 : c0 ≤ 10000) (hf : isFo f) (hG : GO nt 1019 G) (hbu : bu ≤ 9) :
    ∀ n a m, a ≤ G 0 0 → G 0 0 - a < n → CE cd r nt z ve m → RF f m (psA cd r bu G (G 0 0) a).2 → ∃ m', (X2_rounds_19 nt z f k6 n v2 (nbI bu) (nI (c0 + (psA cd r bu G (G 0 0) a).1)) (nI v5) (nI c0) (nI a) m = if (passA cd r bu G).1 = 0 ∧ fO (cd (G 0 2)) = 0 then some (nI c0, m') else k6 v2 (nbI bu) (nI (c0 + (passA cd r bu G).1)) (nI (v5 + 1)) m') ∧ CE cd r nt z ve m' ∧ RF f m' (passA cd r bu G).2 ∧ FrM f m m' := by
  have g0 := hG.1
  have hff : f = 5 ∨ f = 16 ∨ f = 23 := hf
  intro n
  induction n with
  | zero => intro a m _ h; omega
  | succ n ih =>
    intro a m ha hn hE hR
    rw [X2_rounds_19]
    obtain ⟨i1, i2, i3⟩ := psA_i (cd := cd) (r := r) (bu := bu) (N := G 0 0) hG g0 a (by omega)
    have s0 := hR.1 0 (by decide)
    rw [i2 0 0 (by decide) (by decide)] at s0
    by_cases h8 : a = G 0 0
    · have s1 := hR.1 1 (by decide)
      rw [h8] at hR s1 i1 i2 i3
      have hR' := rnd_f hf hR
      generalize hP : psA cd r bu G (G 0 0) (G 0 0) = S at *
      have hpa : passA cd r bu G = (S.1, rnd S.2) := by unfold passA; rw [hP]
      have hE' : CE cd r nt z ve (pI m f 1 (nI (S.2 0 1 + 1))) := CE_fo hE (fun x j h1 h2 h3 h4 h5 => by rw [rIn (by omega)]) (fun _ _ _ _ => rfl)
      have hrs := rests_c hE' hR' (rnd_o i1)
      have hru : rnd S.2 0 2 = G 0 2 := by show S.2 0 2 = _; exact i2 0 2 (by decide) (by decide)
      rw [hru] at hrs
      have fr : FrM f m (pI m f 1 (nI (S.2 0 1 + 1))) := ⟨fun x j _ _ _ _ _ h => by rw [rIn (by omega)], fun _ _ _ => rfl⟩
      have k2 := fO_le (cd (G 0 2))
      rw [h8, hpa, hP]
      refine ⟨pI m f 1 (nI (S.2 0 1 + 1)), ?_, hE', hR', fr⟩
      by_cases q : S.1 = 0
      · rcases (show fO (cd (G 0 2)) = 0 ∨ fO (cd (G 0 2)) = 1 by omega) with h | h
        · rw [h] at hrs
          simp (disch := omega) only [leT, leF, ltT, ltF, eqT, eqF, inT, n_cl, nI_add, pk_mul, n_div, pk_sub, md8, md2, or_true, true_or, or_false, false_or, Bool.true_eq_false, Bool.false_eq_true, L0, L1, L2, L3, L4, L5, L6, L7, L8, L9, L10, L20, L31, L40, L64, L99, L100, L255, L256, L999, L1000, L99999, ↓reduceIte, s0, q, Nat.add_zero, s1, hrs, bi, h, and_self]
        · rw [h] at hrs
          simp (disch := omega) only [leT, leF, ltT, ltF, eqT, eqF, inT, n_cl, nI_add, pk_mul, n_div, pk_sub, md8, md2, or_true, true_or, or_false, false_or, Bool.true_eq_false, Bool.false_eq_true, L0, L1, L2, L3, L4, L5, L6, L7, L8, L9, L10, L20, L31, L40, L64, L99, L100, L255, L256, L999, L1000, L99999, ↓reduceIte, s0, q, Nat.add_zero, s1, hrs, bi, h, X2_rounds_161, show ¬ (1 = 0) by decide, and_false]
      · simp (disch := omega) only [leT, leF, ltT, ltF, eqT, eqF, inT, n_cl, nI_add, pk_mul, n_div, pk_sub, md8, md2, or_true, true_or, or_false, false_or, Bool.true_eq_false, Bool.false_eq_true, L0, L1, L2, L3, L4, L5, L6, L7, L8, L9, L10, L20, L31, L40, L64, L99, L100, L255, L256, L999, L1000, L99999, ↓reduceIte, s0, q, s1, X2_rounds_161, false_and]
    · have hrow := row_c (cd := cd) (r := r) (z := z) (ve := ve) (bu := bu) (a := a) (s := psA cd r bu G (G 0 0) a) k6 (X2_rounds_19 nt z f k6 n) (v2 := v2) (v5 := nI v5) (v6 := nI c0) (c0 := c0) hf i1 (i2 0 0 (by decide) (by decide)) (show a < G 0 0 by omega) hbu 10000 0 m (by omega) (by omega) hE hR
      obtain ⟨m1, a1, a2, a3, a4⟩ := hrow
      simp (disch := omega) only [leT, leF, ltT, ltF, eqT, eqF, inT, n_cl, nI_add, pk_mul, n_div, pk_sub, md8, md2, or_true, true_or, or_false, false_or, Bool.true_eq_false, Bool.false_eq_true, L0, L1, L2, L3, L4, L5, L6, L7, L8, L9, L10, L20, L31, L40, L64, L99, L100, L255, L256, L999, L1000, L99999, ↓reduceIte, s0]
      rw [show psR cd r bu a (psA cd r bu G (G 0 0) a) 0 = psA cd r bu G (G 0 0) a from rfl] at a1
      rw [a1]
      obtain ⟨m2, b1, b2, b3, b4⟩ := ih (a + 1) m1 (by omega) (by omega) a2 a3
      exact ⟨m2, b1, b2, b3, FrM_t a4 b4⟩
/-! the reference -/
theorem row_r (k4 : Int32 → Int32 → Int32 → Mem → Option (Int32 × Mem)) {c0 : Nat} (hG : GO nt R s.2) (hN : s.2 0 0 = N) (ha : a < N) (hbu : bu ≤ 9) :
    ∀ n b m, b ≤ N → N - b < n → RE cd r nt m → RR m (psR cd r bu a s b).2 → ∃ m', X10_passes_15 k4 n (nbI bu) (nI (psR cd r bu a s b).1) (nI a) (nI b) m = k4 (nbI bu) (nI (psR cd r bu a s N).1) (nI (a + 1)) m' ∧ RR m' (psR cd r bu a s N).2 ∧ FrT m m' := by
  have g0 : N ≤ 6 := by rw [← hN]; exact hG.1
  intro n
  induction n with
  | zero => intro b m _ h; omega
  | succ n ih =>
    intro b m hb hn hE hR
    rw [X10_passes_15]
    obtain ⟨i1, i2, i3⟩ := psR_i (cd := cd) (r := r) (bu := bu) (a := a) hG (by omega) b (by omega)
    have s0 := hR.1
    rw [i2 0 0 (by decide) (by decide), hN] at s0
    by_cases h8 : b = N
    · subst h8
      simp (disch := omega) only [leT, leF, ltT, ltF, eqT, eqF, inT, n_cl, nI_add, pk_mul, n_div, pk_sub, md8, md2, or_true, true_or, or_false, false_or, Bool.true_eq_false, Bool.false_eq_true, L0, L1, L2, L3, L4, L5, L6, L7, L8, L9, L10, L20, L31, L40, L64, L99, L100, L255, L256, L999, L1000, L99999, ↓reduceIte, s0]
      exact ⟨m, rfl, hR, FrT_r m⟩
    · have hb6 : b < 6 := by omega
      by_cases sk : a = b ∨ a = bu ∨ b = bu
      · have e : psR cd r bu a s (b + 1) = psR cd r bu a s b := by rw [psR, psB, if_pos sk]
        have := ih (b + 1) m (by omega) (by omega) hE (by rw [e]; exact hR)
        rw [e] at this
        rcases Classical.em (a = b) with k1 | k1
        · simp (disch := omega) only [leT, leF, ltT, ltF, eqT, eqF, inT, n_cl, nI_add, pk_mul, n_div, pk_sub, md8, md2, or_true, true_or, or_false, false_or, Bool.true_eq_false, Bool.false_eq_true, L0, L1, L2, L3, L4, L5, L6, L7, L8, L9, L10, L20, L31, L40, L64, L99, L100, L255, L256, L999, L1000, L99999, ↓reduceIte, X10_passes_52, X10_passes_53, s0, Nat.add_zero]
          exact this
        · rcases Classical.em (a = bu) with k2 | k2
          · have w2 : (nI a = nbI bu) = True := eq_true ((nbI_q (by omega) hbu).mpr k2)
            simp (disch := omega) only [leT, leF, ltT, ltF, eqT, eqF, inT, n_cl, nI_add, pk_mul, n_div, pk_sub, md8, md2, or_true, true_or, or_false, false_or, Bool.true_eq_false, Bool.false_eq_true, L0, L1, L2, L3, L4, L5, L6, L7, L8, L9, L10, L20, L31, L40, L64, L99, L100, L255, L256, L999, L1000, L99999, ↓reduceIte, X10_passes_52, X10_passes_53, s0, w2, Nat.add_zero]
            exact this
          · have w3 : (nI b = nbI bu) = True := eq_true ((nbI_q hb6 hbu).mpr (by omega))
            simp (disch := omega) only [leT, leF, ltT, ltF, eqT, eqF, inT, n_cl, nI_add, pk_mul, n_div, pk_sub, md8, md2, or_true, true_or, or_false, false_or, Bool.true_eq_false, Bool.false_eq_true, L0, L1, L2, L3, L4, L5, L6, L7, L8, L9, L10, L20, L31, L40, L64, L99, L100, L255, L256, L999, L1000, L99999, ↓reduceIte, X10_passes_52, X10_passes_53, s0, nbI_q (show a < 6 by omega) hbu, w3, k2, Nat.add_zero]
            exact this
      · have e : psR cd r bu a s (b + 1) = ((psR cd r bu a s b).1 + (meetA cd r (psR cd r bu a s b).2 a b).1, (meetA cd r (psR cd r bu a s b).2 a b).2) := by rw [psR, psB, if_neg sk]
        have k1 : ¬ a = b := by omega
        have k2 : ¬ a = bu := by omega
        have k3 : ¬ b = bu := by omega
        have hn0 : (psR cd r bu a s b).2 0 0 = N := by rw [i2 0 0 (by decide) (by decide), hN]
        obtain ⟨m1, a1, a2, a3⟩ := meets_r (a := a) (b := b) hE hR i1 (by omega) (by omega) k1
        obtain ⟨m2, b1, b2, b3⟩ := ih (b + 1) m1 (by omega) (by omega) (FrT_re a3 hE) (by rw [e]; exact a2)
        rw [e] at b1
        simp (disch := omega) only [leT, leF, ltT, ltF, eqT, eqF, inT, n_cl, nI_add, pk_mul, n_div, pk_sub, md8, md2, or_true, true_or, or_false, false_or, Bool.true_eq_false, Bool.false_eq_true, L0, L1, L2, L3, L4, L5, L6, L7, L8, L9, L10, L20, L31, L40, L64, L99, L100, L255, L256, L999, L1000, L99999, ↓reduceIte, X10_passes_53, s0, nbI_q (show a < 6 by omega) hbu, nbI_q hb6 hbu, k2, k3, a1, bi]
        exact ⟨m2, b1, b2, FrT_t a3 b3⟩
theorem rnd_r (h : RR m G) : RR (pI m 63 7 (nI (G 0 1 + 1))) (rnd G) := by
  obtain ⟨h1, h2, h3, h4, h5⟩ := h
  refine ⟨by rw [rIn (by omega)]; exact h1, rIs, by rw [rIn (by omega)]; exact h3, fun p hp => ?_, fun p hp => ?_⟩
  · rw [rIn (by omega), rIn (by omega), rIn (by omega), rIn (by omega), rIn (by omega)]
    unfold rnd
    simp only [show ¬ (1 = 0) by decide, show ¬ (2 = 0) by decide, show ¬ (3 = 0) by decide, show ¬ (4 = 0) by decide, show ¬ (5 = 0) by decide, show ¬ (6 = 0) by decide, false_and, ↓reduceIte]
    exact h4 p hp
  · rw [rIn (by omega)]; exact h5 p hp
theorem passL_r (hG : GO nt R G) (hbu : bu ≤ 9) : ∀ n a m, a ≤ G 0 0 → G 0 0 - a < n → RE cd r nt m → RR m (psA cd r bu G (G 0 0) a).2 → ∃ m', X10_passes_4 n (nbI bu) (nI (psA cd r bu G (G 0 0) a).1) (nI a) m = some (nI (passA cd r bu G).1, m') ∧ RR m' (passA cd r bu G).2 ∧ FrT m m' := by
  have g0 := hG.1
  intro n
  induction n with
  | zero => intro a m _ h; omega
  | succ n ih =>
    intro a m ha hn hE hR
    rw [X10_passes_4]
    obtain ⟨i1, i2, i3⟩ := psA_i (cd := cd) (r := r) (bu := bu) (N := G 0 0) hG g0 a (by omega)
    have s0 := hR.1
    rw [i2 0 0 (by decide) (by decide)] at s0
    by_cases h8 : a = G 0 0
    · have s1 := hR.2.1
      rw [h8] at hR s1
      have hR' := rnd_r hR
      rw [h8]
      simp (disch := omega) only [leT, leF, ltT, ltF, eqT, eqF, inT, n_cl, nI_add, pk_mul, n_div, pk_sub, md8, md2, or_true, true_or, or_false, false_or, Bool.true_eq_false, Bool.false_eq_true, L0, L1, L2, L3, L4, L5, L6, L7, L8, L9, L10, L20, L31, L40, L64, L99, L100, L255, L256, L999, L1000, L99999, ↓reduceIte, s0, s1]
      exact ⟨_, rfl, hR', fun x j h1 h2 => by rw [rIn (by omega)], fun _ _ _ => rfl⟩
    · obtain ⟨m1, a1, a2, a3⟩ := row_r (cd := cd) (r := r) (bu := bu) (a := a) (s := psA cd r bu G (G 0 0) a) (X10_passes_4 n) (c0 := 0) i1 (i2 0 0 (by decide) (by decide)) (show a < G 0 0 by omega) hbu 10000 0 m (by omega) (by omega) hE hR
      simp (disch := omega) only [leT, leF, ltT, ltF, eqT, eqF, inT, n_cl, nI_add, pk_mul, n_div, pk_sub, md8, md2, or_true, true_or, or_false, false_or, Bool.true_eq_false, Bool.false_eq_true, L0, L1, L2, L3, L4, L5, L6, L7, L8, L9, L10, L20, L31, L40, L64, L99, L100, L255, L256, L999, L1000, L99999, ↓reduceIte, s0]
      rw [show psR cd r bu a (psA cd r bu G (G 0 0) a) 0 = psA cd r bu G (G 0 0) a from rfl] at a1
      rw [a1]
      obtain ⟨m2, b1, b2, b3⟩ := ih (a + 1) m1 (by omega) (by omega) (FrT_re a3 hE) a2
      exact ⟨m2, b1, b2, FrT_t a3 b3⟩
theorem passes_r (hE : RE cd r nt m) (hR : RR m G) (hG : GO nt R G) (hbu : bu ≤ 9) : ∃ m', X10_passes (nbI bu) m = some (nI (passA cd r bu G).1, m') ∧ RR m' (passA cd r bu G).2 ∧ FrT m m' := passL_r hG hbu 10000 0 m (Nat.zero_le _) (by have := hG.1; omega) hE hR
end
